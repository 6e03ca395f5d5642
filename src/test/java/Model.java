import java.util.ArrayList;
import java.util.HashMap;
import java.util.LinkedHashMap;
import java.util.List;
import java.util.Map;
import java.util.Random;

/**
 * A random program as a tree, with what the document says of it worked out on the tree: its text, its orders, its
 * frames and its meaning. Nothing of GatedPile is used here.
 */
final class Model {
  static final class Node {
    final String kind;
    String name = "";
    int value;
    final List<Node> parts = new ArrayList<>();
    final List<List<Node>> blocks = new ArrayList<>();
    final List<String> whens = new ArrayList<>();

    Node(String kind) {
      this.kind = kind;
    }
  }

  static final class Proc {
    String name;
    final List<String> parameters = new ArrayList<>();
    final List<String> raises = new ArrayList<>();
    List<Node> body = new ArrayList<>();
    int size;
    int want;
    int enter;
  }

  /** An order while its link is a place to be told later. */
  static final class Order {
    int number;
    int operand;
    int[] link;
  }

  static final class Raised extends RuntimeException {
    final int condition;

    Raised(int condition) {
      super(null, null, false, false);
      this.condition = condition;
    }
  }

  static final class Returned extends RuntimeException {
    final int value;

    Returned(int value) {
      super(null, null, false, false);
      this.value = value;
    }
  }

  static final class Stopped extends RuntimeException {
    final int answer;

    Stopped(int answer) {
      super(null, null, false, false);
      this.answer = answer;
    }
  }

  static final String[] SIGNS = {"<", ">", "<=", ">=", "==", "!="};
  static final int STEPS = 200000;

  final Random random;
  final List<Proc> procs = new ArrayList<>();
  final Map<String, Integer> vars = new LinkedHashMap<>();
  final List<Integer> lengths = new ArrayList<>();
  final List<Boolean> rows = new ArrayList<>();
  final Map<String, Integer> conditions = new LinkedHashMap<>();
  final List<Order> orders = new ArrayList<>();

  private List<String> scope = new ArrayList<>();
  private Proc current;
  private int fresh;
  private int budget;
  private boolean wild;

  Model(long seed, int budget, boolean wild) {
    random = new Random(seed);
    this.budget = budget;
    this.wild = wild;
    for (String c : new String[] {"range", "index", "divide", "empty", "error"}) conditions.put(c, conditions.size() + 1);
    int own = random.nextInt(4);
    for (int i = 0; i < own; i++) conditions.put("c" + i, conditions.size() + 1);
    int some = 1 + random.nextInt(3);
    for (int i = 0; i < some; i++) addVar("v" + i, 1, false);
    some = 1 + random.nextInt(2);
    for (int i = 0; i < some; i++) addVar("w" + i, 1 + random.nextInt(random.nextInt(4) == 0 ? 500 : 6), true);
    int many = 1 + random.nextInt(4);
    int main = random.nextInt(many);
    for (int i = 0; i < many; i++) addProc(i == main ? "main" : "p" + i);
    int share = budget / many;
    for (Proc p : procs) {
      current = p;
      scope = new ArrayList<>(p.parameters);
      this.budget = share;
      fresh = 0;
      p.body = block(1 + random.nextInt(4), 0);
    }
    makeOrders();
  }

  private void addVar(String name, int length, boolean row) {
    vars.put(name, vars.size());
    lengths.add(length);
    rows.add(row);
  }

  private void addProc(String name) {
    Proc p = new Proc();
    p.name = name;
    if (!name.equals("main")) {
      int some = random.nextInt(random.nextInt(5) == 0 ? 9 : 4);
      for (int i = 0; i < some; i++) p.parameters.add("a" + i);
    }
    for (String c : conditions.keySet()) if (random.nextInt(3) == 0) p.raises.add(c);
    if (random.nextBoolean()) java.util.Collections.reverse(p.raises);
    procs.add(p);
  }

  private String pick(List<String> of) {
    return of.get(random.nextInt(of.size()));
  }

  private String anyVar(boolean row) {
    List<String> fit = new ArrayList<>();
    for (String v : vars.keySet()) if (rows.get(vars.get(v)) == row) fit.add(v);
    return pick(fit);
  }

  private String anyCondition() {
    return pick(new ArrayList<>(conditions.keySet()));
  }

  private List<Node> block(int most, int depth) {
    int kept = scope.size();
    List<Node> made = new ArrayList<>();
    for (int i = 0; i < most && budget > 0; i++) made.add(statement(depth));
    scope = new ArrayList<>(scope.subList(0, kept));
    return made;
  }

  private List<Node> inner(int depth) {
    return block(random.nextInt(wild ? 5 : 4), depth + 1);
  }

  private Node statement(int depth) {
    budget--;
    int kind = random.nextInt(depth > 5 ? 5 : 12);
    Node s;
    if (kind <= 1 && scope.size() - current.parameters.size() < 16) {
      s = new Node("var");
      s.parts.add(expression(depth));
      s.name = "b" + fresh++;
      scope.add(s.name);
    } else if (kind <= 3) {
      s = new Node(random.nextInt(3) == 0 ? "set" : "assign");
      s.name = s.kind.equals("set") ? anyVar(true) : scope.isEmpty() || random.nextBoolean() ? anyVar(false) : pick(scope);
      if (s.kind.equals("set")) s.parts.add(expression(depth));
      s.parts.add(expression(depth));
    } else if (kind == 4 || kind == 5) {
      s = new Node("out");
      s.parts.add(expression(depth));
    } else if (kind == 6) {
      s = new Node("do");
      s.parts.add(call(depth));
    } else if (kind == 7) {
      s = new Node("if");
      s.parts.add(expression(depth));
      s.blocks.add(inner(depth));
      if (random.nextBoolean()) s.blocks.add(inner(depth));
    } else if (kind == 8) {
      s = new Node("while");
      s.parts.add(expression(depth));
      s.blocks.add(inner(depth));
    } else if (kind == 9 || kind == 10) {
      s = new Node("try");
      s.blocks.add(inner(depth));
      int some = 1 + random.nextInt(3);
      for (int i = 0; i < some; i++) {
        String c = anyCondition();
        if (s.whens.contains(c)) continue;
        s.whens.add(c);
        s.blocks.add(inner(depth));
      }
    } else {
      s = new Node(random.nextInt(3) == 0 ? "return" : "raise");
      if (s.kind.equals("raise")) s.name = anyCondition();
      else s.parts.add(expression(depth));
    }
    return s;
  }

  private Node call(int depth) {
    Node e = new Node("call");
    int own = procs.indexOf(current);
    int to = random.nextInt(random.nextInt(6) == 0 ? procs.size() : own + 1);
    e.name = procs.get(to).name;
    for (int i = 0; i < procs.get(to).parameters.size(); i++) e.parts.add(expression(depth + 2));
    return e;
  }

  private Node expression(int depth) {
    if (random.nextInt(4) != 0) return sum(depth);
    Node e = new Node("compare");
    e.value = random.nextInt(6);
    e.parts.add(sum(depth));
    e.parts.add(sum(depth));
    return e;
  }

  private Node sum(int depth) {
    Node e = factor(depth);
    int more = depth > 6 ? 0 : random.nextInt(3);
    for (int i = 0; i < more; i++) {
      Node both = new Node("+-*/%".substring(random.nextInt(5)).substring(0, 1));
      both.parts.add(e);
      both.parts.add(factor(depth + 1));
      e = both;
    }
    return e;
  }

  private static final int[] EDGES = {0, 1, 2, 255, 256, 257, 32767, 32766, 181, 182, 128, 16384};

  private Node factor(int depth) {
    budget--;
    int kind = random.nextInt(depth > 6 ? 5 : 12);
    Node e;
    if (kind <= 1) {
      e = new Node("number");
      e.value = random.nextInt(4) == 0 ? EDGES[random.nextInt(EDGES.length)] : random.nextInt(9);
    } else if (kind <= 4) {
      e = new Node("name");
      e.name = scope.isEmpty() || random.nextInt(3) == 0 ? anyVar(false) : pick(scope);
    } else if (kind == 5) {
      e = new Node("in");
    } else if (kind == 6) {
      e = new Node("neg");
      e.parts.add(factor(depth + 1));
    } else if (kind == 7) {
      e = new Node("at");
      e.name = anyVar(true);
      e.parts.add(expression(depth + 2));
    } else if (kind == 8) {
      return call(depth);
    } else {
      return expression(depth + 2);
    }
    return e;
  }

  // ---- the text

  private final List<String> tokens = new ArrayList<>();

  String text() {
    return text(false);
  }

  /** The text, with few blanks or with many. */
  String text(boolean tight) {
    tokens.clear();
    List<String> own = new ArrayList<>(conditions.keySet()).subList(5, conditions.size());
    if (own.size() == 3) say("cond", own.get(0), ";", "cond", own.get(1), ",", own.get(2), ";");
    else if (!own.isEmpty()) say("cond", String.join(" , ", own).trim(), ";");
    int half = procs.size() / 2;
    for (Proc p : procs.subList(0, half)) say(p);
    for (String v : vars.keySet()) {
      if (rows.get(vars.get(v))) say("var", v, "[", "" + lengths.get(vars.get(v)), "]", ";");
      else say("var", v, ";");
    }
    for (Proc p : procs.subList(half, procs.size())) say(p);
    StringBuilder all = new StringBuilder();
    String before = ";";
    for (String t : tokens) {
      boolean touch = Character.isLetterOrDigit(before.charAt(before.length() - 1)) && Character.isLetterOrDigit(t.charAt(0));
      if (touch || !tight && random.nextInt(3) == 0) all.append(blank(tight));
      all.append(t);
      before = t;
    }
    return all.toString();
  }

  private String blank(boolean tight) {
    if (tight) return " ";
    int kind = random.nextInt(12);
    if (kind == 0) return "# " + (char) (128 + random.nextInt(100)) + " #if(\n";
    if (kind == 1) return "\t\r\n";
    return kind == 2 ? "\n  " : " ";
  }

  private void say(String... some) {
    for (String s : some) for (String t : s.split(" ")) tokens.add(t);
  }

  private void say(Proc p) {
    say("proc", p.name, "(");
    if (!p.parameters.isEmpty()) say(String.join(" , ", p.parameters));
    say(")");
    if (!p.raises.isEmpty()) say("raises", String.join(" , ", p.raises));
    say(p.body);
  }

  private void say(List<Node> block) {
    say("{");
    for (Node s : block) sayStatement(s);
    say("}");
  }

  private void sayStatement(Node s) {
    switch (s.kind) {
      case "var" -> { say("var", s.name, "="); say(s.parts.get(0), 0); say(";"); }
      case "assign" -> { say(s.name, "="); say(s.parts.get(0), 0); say(";"); }
      case "set" -> { say(s.name, "["); say(s.parts.get(0), 0); say("]", "="); say(s.parts.get(1), 0); say(";"); }
      case "do" -> { say(s.parts.get(0), 0); say(";"); }
      case "out", "return" -> { say(s.kind); say(s.parts.get(0), 0); say(";"); }
      case "raise" -> say("raise", s.name, ";");
      case "if" -> {
        say("if");
        say(s.parts.get(0), 0);
        say(s.blocks.get(0));
        if (s.blocks.size() > 1) { say("else"); say(s.blocks.get(1)); }
      }
      case "while" -> { say("while"); say(s.parts.get(0), 0); say(s.blocks.get(0)); }
      default -> {
        say("try");
        say(s.blocks.get(0));
        for (int i = 0; i < s.whens.size(); i++) { say("when", s.whens.get(i)); say(s.blocks.get(i + 1)); }
      }
    }
  }

  private static int strength(Node e) {
    return switch (e.kind) {
      case "compare" -> 0;
      case "+", "-" -> 1;
      case "*", "/", "%" -> 2;
      default -> 3;
    };
  }

  private void say(Node e, int least) {
    int strength = strength(e);
    if (strength < least) {
      say("(");
      say(e, 0);
      say(")");
      return;
    }
    switch (e.kind) {
      case "compare" -> { say(e.parts.get(0), 1); say(SIGNS[e.value]); say(e.parts.get(1), 1); }
      case "number" -> say("" + e.value);
      case "name" -> say(e.name);
      case "in" -> say("in");
      case "neg" -> { say("-"); say(e.parts.get(0), 3); }
      case "at" -> { say(e.name, "["); say(e.parts.get(0), 0); say("]"); }
      case "call" -> {
        say(e.name, "(");
        for (int i = 0; i < e.parts.size(); i++) {
          if (i > 0) say(",");
          say(e.parts.get(i), 0);
        }
        say(")");
      }
      default -> { say(e.parts.get(0), strength); say(e.kind); say(e.parts.get(1), strength + 1); }
    }
  }

  // ---- the orders (Part IV) and the frames (Part V)

  private int[] handler;
  private Map<String, Integer> numbers = new HashMap<>();
  private int mostOthers;

  private int procNumber(String name) {
    for (int i = 0; i < procs.size(); i++) if (procs.get(i).name.equals(name)) return i;
    return -1;
  }

  private void emit(int number, int operand, int[] link) {
    Order o = new Order();
    o.number = number;
    o.operand = operand;
    o.link = link;
    orders.add(o);
  }

  private void here(int[] label) {
    label[0] = orders.size();
  }

  private void makeOrders() {
    for (int p = 0; p < procs.size(); p++) {
      current = procs.get(p);
      current.enter = orders.size();
      numbers = new HashMap<>();
      for (String a : current.parameters) numbers.put(a, numbers.size());
      mostOthers = 0;
      int[] leave = {-1};
      handler = leave;
      emit(0, p, null);
      orders(current.body);
      emit(1, 0, null);
      emit(22, p, null);
      here(leave);
      emit(26, p, null);
      current.size = current.parameters.size() + 2 + mostOthers;
      current.want = current.size - current.parameters.size() + Math.max(1, pushes(current.body)) + 3;
    }
  }

  private void orders(List<Node> block) {
    Map<String, Integer> kept = new HashMap<>(numbers);
    for (Node s : block) statementOrders(s);
    numbers = kept;
  }

  private void statementOrders(Node s) {
    switch (s.kind) {
      case "var" -> {
        orders(s.parts.get(0));
        int k = numbers.size();
        emit(3, k, null);
        numbers.put(s.name, k);
        mostOthers = Math.max(mostOthers, numbers.size() - current.parameters.size());
      }
      case "assign" -> {
        orders(s.parts.get(0));
        if (numbers.containsKey(s.name)) emit(3, numbers.get(s.name), null);
        else emit(5, vars.get(s.name), null);
      }
      case "set" -> { orders(s.parts.get(0)); orders(s.parts.get(1)); emit(7, vars.get(s.name), handler); }
      case "do" -> { orders(s.parts.get(0)); emit(18, 0, null); }
      case "out" -> { orders(s.parts.get(0)); emit(20, 0, null); }
      case "return" -> { orders(s.parts.get(0)); emit(22, procs.indexOf(current), null); }
      case "raise" -> emit(21, conditions.get(s.name), handler);
      case "if" -> {
        int[] one = {-1};
        int[] two = {-1};
        orders(s.parts.get(0));
        emit(16, 0, one);
        orders(s.blocks.get(0));
        if (s.blocks.size() > 1) emit(15, 0, two);
        here(one);
        if (s.blocks.size() > 1) orders(s.blocks.get(1));
        here(two);
      }
      case "while" -> {
        int[] one = {-1};
        int[] two = {-1};
        here(one);
        orders(s.parts.get(0));
        emit(16, 0, two);
        orders(s.blocks.get(0));
        emit(15, 0, one);
        here(two);
      }
      default -> tryOrders(s);
    }
  }

  private void tryOrders(Node s) {
    int[] outer = handler;
    int[] handle = {-1};
    int[] two = {-1};
    handler = handle;
    orders(s.blocks.get(0));
    handler = outer;
    emit(15, 0, two);
    here(handle);
    emit(23, procs.indexOf(current), null);
    List<int[]> starts = new ArrayList<>();
    for (String c : s.whens) {
      starts.add(new int[] {-1});
      emit(24, conditions.get(c), starts.get(starts.size() - 1));
    }
    emit(25, 0, handler);
    for (int i = 0; i < s.whens.size(); i++) {
      here(starts.get(i));
      orders(s.blocks.get(i + 1));
      emit(15, 0, two);
    }
    here(two);
  }

  private void orders(Node e) {
    for (Node part : e.parts) orders(part);
    switch (e.kind) {
      case "compare" -> emit(14, e.value, null);
      case "number" -> emit(1, e.value, null);
      case "name" -> {
        if (numbers.containsKey(e.name)) emit(2, numbers.get(e.name), null);
        else emit(4, vars.get(e.name), null);
      }
      case "in" -> emit(19, 0, handler);
      case "neg" -> emit(13, 0, handler);
      case "at" -> emit(6, vars.get(e.name), handler);
      case "call" -> emit(17, procNumber(e.name), handler);
      default -> emit(8 + "+-*/%".indexOf(e.kind), 0, handler);
    }
  }

  private static int pushes(List<Node> block) {
    int most = 0;
    for (Node s : block) {
      for (int i = 0; i < s.parts.size(); i++) most = Math.max(most, i + pushes(s.parts.get(i)));
      for (List<Node> b : s.blocks) most = Math.max(most, pushes(b));
    }
    return most;
  }

  private static int pushes(Node e) {
    int most = 1;
    for (int i = 0; i < e.parts.size(); i++) most = Math.max(most, i + pushes(e.parts.get(i)));
    return most;
  }

  // ---- the meaning (Part III)

  final List<Integer> output = new ArrayList<>();
  int takenInputs;
  private int[] globals;
  private int[] input;
  private int steps;
  private int top;
  private Map<String, Integer> locals;

  /** What run() should answer if it had the time: the condition, -2, or -3 when it takes more than STEPS. */
  int meaning(int[] numbersIn, int pile) {
    input = numbersIn;
    takenInputs = 0;
    output.clear();
    steps = 0;
    top = pile;
    int all = 0;
    for (int n : lengths) all += n;
    globals = new int[all];
    try {
      call(procs.get(procNumber("main")), new int[0]);
      return 0;
    } catch (Raised r) {
      return r.condition;
    } catch (Stopped s) {
      return s.answer;
    }
  }

  private void step() {
    if (++steps > STEPS) throw new Stopped(-3);
  }

  private int place(String var) {
    int at = 0;
    for (int i = 0; i < vars.get(var); i++) at += lengths.get(i);
    return at;
  }

  private int call(Proc p, int[] given) {
    step();
    if (8192 - p.want < top) throw new Stopped(-2);
    int base = top - given.length;
    Map<String, Integer> outer = locals;
    Proc from = current;
    locals = new HashMap<>();
    current = p;
    for (int i = 0; i < given.length; i++) locals.put(p.parameters.get(i), given[i]);
    top = base + p.size;
    try {
      perform(p.body, base);
      return 0;
    } catch (Returned r) {
      return r.value;
    } catch (Raised r) {
      boolean told = false;
      for (String c : p.raises) told |= conditions.get(c) == r.condition;
      throw told ? r : new Raised(5);
    } finally {
      locals = outer;
      current = from;
      top = base;
    }
  }

  private void perform(List<Node> block, int base) {
    for (Node s : block) perform(s, base);
  }

  private void perform(Node s, int base) {
    step();
    switch (s.kind) {
      case "var" -> locals.put(s.name, pop(s.parts.get(0)));
      case "assign" -> {
        int v = pop(s.parts.get(0));
        if (locals.containsKey(s.name)) locals.put(s.name, v);
        else globals[place(s.name)] = v;
      }
      case "set" -> {
        int i = eval(s.parts.get(0));
        int v = eval(s.parts.get(1));
        top -= 2;
        globals[place(s.name) + index(s.name, i)] = v;
      }
      case "do" -> pop(s.parts.get(0));
      case "out" -> output.add(pop(s.parts.get(0)));
      case "return" -> throw new Returned(pop(s.parts.get(0)));
      case "raise" -> throw new Raised(conditions.get(s.name));
      case "if" -> {
        if (pop(s.parts.get(0)) != 0) perform(s.blocks.get(0), base);
        else if (s.blocks.size() > 1) perform(s.blocks.get(1), base);
      }
      case "while" -> {
        while (pop(s.parts.get(0)) != 0) {
          step();
          perform(s.blocks.get(0), base);
        }
      }
      default -> {
        int caught = -1;
        try {
          perform(s.blocks.get(0), base);
        } catch (Raised r) {
          for (int i = 0; i < s.whens.size(); i++) if (conditions.get(s.whens.get(i)) == r.condition) caught = i;
          if (caught < 0) throw r;
          top = base + current.size;
        }
        if (caught >= 0) perform(s.blocks.get(caught + 1), base);
      }
    }
  }

  private int index(String row, int i) {
    if (i < 0 || i >= lengths.get(vars.get(row))) throw new Raised(2);
    return i;
  }

  private int pop(Node e) {
    int v = eval(e);
    top--;
    return v;
  }

  private static int number(int v) {
    if (v < -32768 || v > 32767) throw new Raised(1);
    return v;
  }

  private int eval(Node e) {
    step();
    int[] v = new int[e.parts.size()];
    for (int i = 0; i < v.length; i++) v[i] = eval(e.parts.get(i));
    int given = v.length;
    int result = switch (e.kind) {
      case "number" -> e.value;
      case "name" -> locals.containsKey(e.name) ? locals.get(e.name) : globals[place(e.name)];
      case "in" -> {
        if (takenInputs >= input.length) throw new Raised(4);
        yield input[takenInputs++];
      }
      case "neg" -> number(-v[0]);
      case "at" -> globals[place(e.name) + index(e.name, v[0])];
      case "call" -> {
        int answer = call(procs.get(procNumber(e.name)), v);
        given = 0;
        yield answer;
      }
      case "compare" -> compare(e.value, v[0], v[1]) ? 1 : 0;
      case "+" -> number(v[0] + v[1]);
      case "-" -> number(v[0] - v[1]);
      case "*" -> number(v[0] * v[1]);
      case "/" -> {
        if (v[1] == 0) throw new Raised(3);
        yield number(v[0] / v[1]);
      }
      default -> {
        if (v[1] == 0) throw new Raised(3);
        yield v[0] % v[1];
      }
    };
    top += 1 - given;
    return result;
  }

  private static boolean compare(int c, int x, int y) {
    return switch (c) {
      case 0 -> x < y;
      case 1 -> x > y;
      case 2 -> x <= y;
      case 3 -> x >= y;
      case 4 -> x == y;
      default -> x != y;
    };
  }
}
