import java.util.ArrayList;
import java.util.HashMap;
import java.util.HashSet;
import java.util.LinkedHashSet;
import java.util.List;
import java.util.Map;
import java.util.Set;

/**
 * The FAULT of a text by Part II, found otherwise than GatedPile does: the grammar is a table that is gone through
 * with all stacks that fit, and the names are judged along the tokens. (The size of CODE is not judged.)
 */
final class Judge {
  static final class Token {
    final String kind;
    final String text;
    final int place;

    Token(String kind, String text, int place) {
      this.kind = kind;
      this.text = text;
      this.place = place;
    }
  }

  /** Symbols that are to come; `open` of those that are counted are open. */
  record Stack(String symbol, Stack below) {}

  record Way(Stack stack, int open) {}

  // ^x: the token x, which opens one that is counted; v: the end of one.
  private static final Map<String, String[]> RULES = new HashMap<>();

  static {
    RULES.put("PROGRAM", new String[] {"", "TOP PROGRAM"});
    RULES.put("TOP", new String[] {"var NAME DIM ;", "cond NAMES ;", "proc NAME ( PARAMS ) RAISES BLOCK"});
    RULES.put("DIM", new String[] {"", "[ NUMBER ]"});
    RULES.put("NAMES", new String[] {"NAME MORE"});
    RULES.put("MORE", new String[] {"", ", NAME MORE"});
    RULES.put("PARAMS", new String[] {"", "NAMES"});
    RULES.put("RAISES", new String[] {"", "raises NAMES"});
    RULES.put("BLOCK", new String[] {"^{ STATEMENTS } v"});
    RULES.put("STATEMENTS", new String[] {"", "STATEMENT STATEMENTS"});
    RULES.put("STATEMENT", new String[] {"var NAME = E ;", "NAME = E ;", "NAME ^[ E ] v = E ;", "NAME ^( ARGS ) v ;",
      "if E BLOCK ELSE", "while E BLOCK", "try BLOCK WHEN WHENS", "raise NAME ;", "return E ;", "out E ;"});
    RULES.put("ELSE", new String[] {"", "else BLOCK"});
    RULES.put("WHEN", new String[] {"when NAME BLOCK"});
    RULES.put("WHENS", new String[] {"", "WHEN WHENS"});
    RULES.put("ARGS", new String[] {"", "E MOREARGS"});
    RULES.put("MOREARGS", new String[] {"", ", E MOREARGS"});
    RULES.put("E", new String[] {"S COMPARED"});
    RULES.put("COMPARED", new String[] {"", "< S", "> S", "<= S", ">= S", "== S", "!= S"});
    RULES.put("S", new String[] {"T MORET"});
    RULES.put("MORET", new String[] {"", "+ T MORET", "- T MORET"});
    RULES.put("T", new String[] {"F MOREF"});
    RULES.put("MOREF", new String[] {"", "* F MOREF", "/ F MOREF", "% F MOREF"});
    RULES.put("F", new String[] {"^- F v", "NUMBER", "NAME BEHIND", "^( E ) v", "in"});
    RULES.put("BEHIND", new String[] {"", "^[ E ] v", "^( ARGS ) v"});
  }

  private static final Set<String> KEYS = Set.of("var", "cond", "proc", "raises", "if", "else", "while", "try", "when",
      "raise", "return", "out", "in");

  final List<Token> tokens = new ArrayList<>();
  final int length;
  int kind;
  int place = -1;

  Judge(String text) {
    length = text.length();
    cut(text);
    judge();
  }

  private void fault(int newKind, int newPlace) {
    if (kind != 0 && (kind < newKind || kind == newKind && place <= newPlace)) return;
    kind = newKind;
    place = newPlace;
  }

  private void cut(String text) {
    java.util.regex.Matcher m = java.util.regex.Pattern.compile(
        "(?<blank>[\\t\\n\\r ]+|#[^\\n]*)|(?<word>[a-z][a-z0-9]*)|(?<number>[0-9]+)|(?<sign>==|!=|<=|>=|[(){}\\[\\];,=+*/%<>-])")
        .matcher(text);
    int at = 0;
    while (at < text.length()) {
      m.region(at, text.length());
      if (!m.lookingAt()) {
        tokens.add(new Token("BAD", "", at));
        return;
      }
      String all = m.group();
      if (m.group("word") != null) {
        if (all.length() > 12) {
          tokens.add(new Token("BAD", all, at + 12));
          return;
        }
        tokens.add(new Token(KEYS.contains(all) ? all : "NAME", all, at));
      } else if (m.group("number") != null) {
        boolean large = new java.math.BigInteger(all).compareTo(java.math.BigInteger.valueOf(32767)) > 0;
        tokens.add(new Token(large ? "BAD" : "NUMBER", all, at));
        if (large) return;
      } else if (m.group("sign") != null) {
        tokens.add(new Token(all, all, at));
      }
      at = m.end();
    }
  }

  private void judge() {
    int bad = firstMalformed();
    if (bad >= 0) {
      fault(1, bad);
      return;
    }
    judgeNames();
  }

  private static void ways(Way way, Set<Way> ready) {
    if (way.stack == null || !RULES.containsKey(way.stack.symbol) && !way.stack.symbol.equals("v")) {
      ready.add(way);
      return;
    }
    if (way.stack.symbol.equals("v")) {
      ways(new Way(way.stack.below, way.open - 1), ready);
      return;
    }
    for (String rule : RULES.get(way.stack.symbol)) {
      Stack stack = way.stack.below;
      String[] symbols = rule.isEmpty() ? new String[0] : rule.split(" ");
      for (int i = symbols.length - 1; i >= 0; i--) stack = new Stack(symbols[i], stack);
      ways(new Way(stack, way.open), ready);
    }
  }

  private int firstMalformed() {
    List<Way> now = new ArrayList<>();
    now.add(new Way(new Stack("PROGRAM", null), 0));
    for (Token t : tokens) {
      List<Way> next = new ArrayList<>();
      for (Way way : now) {
        // Records would compare whole stacks: each way is kept once by being itself.
        Set<Way> ready = java.util.Collections.newSetFromMap(new java.util.IdentityHashMap<>());
        ways(way, ready);
        for (Way r : ready) {
          if (r.stack == null) continue;
          if (r.stack.symbol.equals(t.kind)) next.add(new Way(r.stack.below, r.open));
          if (r.stack.symbol.equals("^" + t.kind) && r.open < 30) next.add(new Way(r.stack.below, r.open + 1));
        }
      }
      if (next.isEmpty()) return t.place;
      now = next;
    }
    for (Way way : now) {
      Set<Way> ready = java.util.Collections.newSetFromMap(new java.util.IdentityHashMap<>());
      ways(way, ready);
      for (Way r : ready) if (r.stack == null) return -1;
    }
    return length;
  }

  // ---- names, along the tokens

  private final Map<String, String> tops = new HashMap<>();
  private final Map<String, Integer> parameters = new HashMap<>();

  private String at(int i) {
    return i >= 0 && i < tokens.size() ? tokens.get(i).kind : "";
  }

  private void tellTop(int i, String as) {
    Token t = tokens.get(i);
    if (tops.putIfAbsent(t.text, as) != null) fault(2, t.place);
  }

  private void judgeNames() {
    for (String c : new String[] {"range", "index", "divide", "empty", "error"}) tops.put(c, "cond");
    int vars = 0;
    int procs = 0;
    int conds = 5;
    int level = 0;
    for (int i = 0; i < tokens.size(); i++) {
      if (at(i).equals("{")) level++;
      if (at(i).equals("}")) level--;
      if (level > 0) continue;
      if (at(i).equals("var")) {
        boolean row = at(i + 2).equals("[");
        tellTop(i + 1, row ? "row" : "var");
        vars++;
        if (row) {
          int n = Integer.parseInt(tokens.get(i + 3).text);
          if (n < 1 || n > 500) fault(5, length);
        }
      } else if (at(i).equals("cond")) {
        for (int j = i + 1; !at(j - 1).equals(";"); j += 2) {
          tellTop(j, "cond");
          conds++;
        }
      } else if (at(i).equals("proc")) {
        procs++;
        int count = 0;
        for (int j = i + 3; !at(j).equals(")"); j++) if (at(j).equals("NAME")) count++;
        if (tops.get(tokens.get(i + 1).text) == null) parameters.put(tokens.get(i + 1).text, count);
        tellTop(i + 1, "proc");
        if (count > 8) fault(5, length);
      }
    }
    if (vars > 60 || procs > 40 || conds > 30) fault(5, length);
    if (!"proc".equals(tops.get("main")) || parameters.get("main") != 0) fault(4, length);
    for (int i = 0; i < tokens.size(); i++) if (at(i).equals("proc")) judgeProc(i + 1);
  }

  private void judgeProc(int name) {
    List<Set<String>> holding = new ArrayList<>();
    holding.add(new LinkedHashSet<>());
    int i = name + 2;
    for (; !at(i).equals(")"); i++) {
      if (at(i).equals("NAME")) tellLocal(holding, i);
    }
    int params = holding.get(0).size();
    Set<String> raises = new HashSet<>();
    for (; !at(i).equals("{"); i++) {
      if (at(i).equals("NAME")) condition(raises, i);
    }
    Map<Integer, Set<String>> whens = new HashMap<>();
    int waiting = -1;
    do {
      String t = at(i);
      int level = holding.size();
      String before = at(i - 1);
      if (t.equals("{")) holding.add(new LinkedHashSet<>());
      else if (t.equals("}")) holding.remove(level - 1);
      else if (t.equals("try")) whens.put(level, new HashSet<>());
      else if (t.equals(";") && waiting >= 0) {
        tellLocal(holding, waiting);
        waiting = -1;
        int all = 0;
        for (Set<String> s : holding) all += s.size();
        if (all - params > 16) fault(5, length);
      } else if (t.equals("NAME")) {
        if (before.equals("var")) waiting = i;
        else if (before.equals("when")) condition(whens.get(level), i);
        else if (before.equals("raise")) condition(new HashSet<>(), i);
        else use(holding, i);
      }
      i++;
    } while (holding.size() > 1);
  }

  private void tellLocal(List<Set<String>> holding, int i) {
    Token t = tokens.get(i);
    boolean told = tops.containsKey(t.text);
    for (Set<String> s : holding) told |= s.contains(t.text);
    if (told) fault(2, t.place);
    holding.get(holding.size() - 1).add(t.text);
  }

  private void condition(Set<String> sofar, int i) {
    Token t = tokens.get(i);
    if (!"cond".equals(tops.get(t.text)) || !sofar.add(t.text)) fault(2, t.place);
  }

  private void use(List<Set<String>> holding, int i) {
    Token t = tokens.get(i);
    String told = tops.get(t.text);
    if (at(i + 1).equals("(")) {
      if (!"proc".equals(told)) fault(2, t.place);
      else if (arguments(i + 1) != parameters.get(t.text)) fault(3, t.place);
    } else if (at(i + 1).equals("[")) {
      if (!"row".equals(told)) fault(2, t.place);
    } else {
      boolean local = false;
      for (Set<String> s : holding) local |= s.contains(t.text);
      if (!local && !"var".equals(told)) fault(2, t.place);
    }
  }

  private int arguments(int open) {
    if (at(open + 1).equals(")")) return 0;
    int depth = 0;
    int count = 1;
    for (int i = open; ; i++) {
      if (at(i).equals("(") || at(i).equals("[")) depth++;
      if (at(i).equals(")") || at(i).equals("]")) depth--;
      if (depth == 0) return count;
      if (depth == 1 && at(i).equals(",")) count++;
    }
  }
}
