import java.util.ArrayList;
import java.util.HashMap;
import java.util.List;
import java.util.Map;

/** Words of orders by the document's own sentences (Part V), written down as they stand there. */
final class Assembler {
  static final String[] OPS = {
    "ADD", "SUB", "AND", "XOR", "LESS", "HALF", "LI", "HI", "LOAD", "STORE", "ADDI", "JZ", "JN", "CALL", "JUMP", "HALT"
  };
  static final String MULTIPLY = "XOR r3 r0 r1, STORE r5 [r7 + 0], LI r2 0, JZ r0 24, JN r0 2, LI r5 0, SUB r0 r5 r0, "
      + "JN r1 1, JUMP 2, LI r5 0, SUB r1 r5 r1, JZ r1 12, LI r5 1, AND r5 r5 r1, JZ r5 3, ADD r2 r2 r0, JN r2 1, JUMP 4, "
      + "HALF r1 r1, JZ r1 4, ADD r0 r0 r0, JN r0 -11, LI r4 1, JUMP 4, JN r3 3, LI r5 0, SUB r2 r5 r2, JN r2 -6, "
      + "LOAD r5 [r7 + 0], CALL r5 r5";
  static final String DIVIDE = "JZ r1 41, STORE r5 [r7 + 0], STORE r0 [r7 + 1], XOR r2 r0 r1, STORE r2 [r7 + 2], LI r5 0, "
      + "JN r0 1, JUMP 1, SUB r0 r5 r0, JN r1 1, JUMP 1, SUB r1 r5 r1, LI r2 0, LI r3 0, LI r4 16, ADD r3 r3 r3, "
      + "ADD r2 r2 r2, JN r0 1, JUMP 1, ADDI r3 r3 1, ADD r0 r0 r0, JN r3 4, JN r1 5, LESS r5 r3 r1, JZ r5 1, JUMP 2, "
      + "SUB r3 r3 r1, ADDI r2 r2 1, ADDI r4 r4 -1, JZ r4 1, JUMP -16, LI r5 0, LOAD r0 [r7 + 2], JN r0 1, JUMP 1, "
      + "SUB r2 r5 r2, LOAD r0 [r7 + 1], JN r0 1, JUMP 1, SUB r3 r5 r3, LOAD r5 [r7 + 0], CALL r5 r5, LI r4 3, CALL r5 r5";
  static final String INDEX = "CONST r1 n, JN r0 3, LESS r2 r0 r1, JZ r2 1, SKIP FAIL 2, PLACE r1 var, ADD r1 r1 r0";
  static final String LESSEN = "SUB r2 r0 r1, XOR r3 r0 r1, XOR r1 r0 r2, AND r3 r3 r1, JN r3 1, SKIP FAIL 1, ON r2";
  static final String BACK = "LOAD r5 [r6 + P], LOAD r3 [r6 + Q], ADDI r7 r6 0, ADDI r6 r3 0, CALL r5 r5";
  static final String[] ORDERS = {
    "CONST r3 left, LESS r2 r3 r7, JZ r2 2, LI r4 -1, HALT, STORE r5 [r7 + 0], STORE r6 [r7 + 1], ADDI r6 r7 -P, ADDI r7 r7 own",
    "CONST r0 x, ON r0",
    "LOAD r0 [r6 + k], ON r0",
    "OFF r0, STORE r0 [r6 + k]",
    "PLACE r1 var, LOAD r0 [r1 + 0], ON r0",
    "OFF r0, PLACE r1 var, STORE r0 [r1 + 0]",
    "OFF r0, " + INDEX + ", LOAD r0 [r1 + 0], ON r0",
    "OFF r3, OFF r0, " + INDEX + ", STORE r3 [r1 + 0]",
    "OFF r1, OFF r0, ADD r2 r0 r1, XOR r3 r0 r2, XOR r1 r1 r2, AND r3 r3 r1, JN r3 1, SKIP FAIL 1, ON r2",
    "OFF r1, OFF r0, " + LESSEN,
    "OFF r1, OFF r0, LIB mul, JZ r4 |GO|, GO, ON r2",
    "OFF r1, OFF r0, LIB div, JZ r4 |GO|, GO, LOAD r5 [r7 + 2], JN r5 1, JN r2 1, SKIP FAIL 1, ON r2",
    "OFF r1, OFF r0, LIB div, JZ r4 |GO|, GO, ON r3",
    "OFF r1, LI r0 0, " + LESSEN,
    "",
    "GO",
    "OFF r0, JZ r0 1, SKIP GO",
    "LIB enter, JZ r4 |GO|, GO, ON r0",
    "ADDI r7 r7 -1",
    "PLACE r1 port, LOAD r0 [r1 + 1], JZ r0 1, SKIP FAIL 4, LOAD r0 [r1 + 0], ON r0",
    "OFF r0, PLACE r1 port, STORE r0 [r1 + 0]",
    "LI r4 x, GO",
    "OFF r0, " + BACK,
    "ADDI r7 r6 size",
    "LI r0 x, XOR r0 r0 r4, JZ r0 1, SKIPWHEN",
    "GO",
    "",
  };
  static final String[] COMPARES = {
    "OFF r1, OFF r0, LESS r2 r0 r1, ON r2",
    "OFF r1, OFF r0, LESS r2 r1 r0, ON r2",
    "OFF r1, OFF r0, LESS r2 r1 r0, LI r3 1, XOR r2 r2 r3, ON r2",
    "OFF r1, OFF r0, LESS r2 r0 r1, LI r3 1, XOR r2 r2 r3, ON r2",
    "OFF r1, OFF r0, XOR r0 r0 r1, LI r2 1, JZ r0 1, LI r2 0, ON r2",
    "OFF r1, OFF r0, XOR r0 r0 r1, LI r2 0, JZ r0 1, LI r2 1, ON r2",
  };

  /** A word, or a GO, of which a size word may stand ahead. */
  static final class Item {
    String[] word;
    Map<String, Integer> names;
    Item sized;
    int more;
    int go = -1;
    boolean longer;
    int place;

    int size() {
      return go >= 0 && longer ? 3 : 1;
    }
  }

  private final Model model;
  private final List<Item> items = new ArrayList<>();
  private final int[] starts;
  private int code;
  int longOnes;

  Assembler(Model model) {
    this.model = model;
    starts = new int[model.orders.size() + 1];
  }

  int[] words() {
    expand("LI r4 0, PLACE r7 pile, ADDI r6 r7 0, PLACE r5 main, CALL r5 r5, HALT", new HashMap<>(), -1);
    int mul = items.size();
    expand(MULTIPLY, new HashMap<>(), -1);
    int div = items.size();
    expand(DIVIDE, new HashMap<>(), -1);
    Model.Proc proc = null;
    int[] first = new int[model.orders.size()];
    for (int i = 0; i < first.length; i++) {
      Model.Order o = model.orders.get(i);
      if (o.number == 0) proc = model.procs.get(o.operand);
      first[i] = items.size();
      expandOrder(o, proc, mul, div);
    }
    boolean again = true;
    while (again) {
      int at = 0;
      for (Item item : items) {
        item.place = at;
        at += item.size();
      }
      code = at;
      for (int i = 0; i < first.length; i++) starts[i] = items.get(first[i]).place;
      again = false;
      for (Item item : items) {
        if (item.go < 0 || item.longer) continue;
        int step = starts[item.go] - item.place - 1;
        if (step >= -2048 && step <= 2047) continue;
        item.longer = true;
        longOnes++;
        again = true;
      }
    }
    int[] words = new int[code];
    for (Item item : items) write(words, item);
    return words;
  }

  int placeOf(int order) {
    return starts[order];
  }

  private void expandOrder(Model.Order o, Model.Proc proc, int mul, int div) {
    int p = proc.parameters.size();
    Map<String, Integer> names = new HashMap<>();
    names.put("P", p);
    names.put("-P", -p);
    names.put("Q", p + 1);
    names.put("left", 8192 - proc.want);
    names.put("own", proc.size - p);
    names.put("size", proc.size);
    names.put("x", o.operand);
    names.put("k", o.operand < p ? o.operand : o.operand + 2);
    names.put("port", 65280);
    names.put("mul", mul);
    names.put("div", div);
    if (o.number >= 4 && o.number <= 7) {
      names.put("n", model.lengths.get(o.operand));
      names.put("*var", o.operand);
    }
    if (o.number == 17) names.put("*enter", model.procs.get(o.operand).enter);
    int go = o.link == null ? -1 : o.link[0];
    if (o.number == 14) expand(COMPARES[o.operand], names, go);
    else if (o.number == 26) expand(leave(proc), names, go);
    else expand(ORDERS[o.number], names, go);
  }

  private String leave(Model.Proc proc) {
    StringBuilder all = new StringBuilder();
    int left = proc.raises.size();
    for (String c : proc.raises) {
      left--;
      all.append("LI r0 ").append(model.conditions.get(c)).append(", XOR r0 r0 r4, JZ r0 ").append(3 * left + 1).append(", ");
    }
    return all + "LI r4 5, " + BACK;
  }

  private void expand(String text, Map<String, Integer> names, int go) {
    if (text.isEmpty()) return;
    for (String part : text.split(", ")) {
      String[] w = part.replace("[", "").replace("]", "").replace("+ ", "").split(" ");
      switch (w[0]) {
        case "ON" -> expand("STORE " + w[1] + " [r7 + 0], ADDI r7 r7 1", names, go);
        case "OFF" -> expand("ADDI r7 r7 -1, LOAD " + w[1] + " [r7 + 0]", names, go);
        case "CONST" -> {
          int v = names.get(w[2]);
          if (v >= -256 && v <= 255) expand("LI " + w[1] + " " + v, names, go);
          else expand("PLACE " + w[1] + " " + w[2], names, go);
        }
        case "PLACE" -> expand("LI " + w[1] + " low:" + w[2] + ", HI " + w[1] + " high:" + w[2], names, go);
        case "LIB" -> expand("PLACE r5 " + w[1] + ", CALL r5 r5", names, go);
        case "GO" -> {
          Item item = new Item();
          item.go = go;
          items.add(item);
          if (sizeOfNext != null) sizeOfNext.sized = item;
          sizeOfNext = null;
        }
        case "SKIP" -> {
          Item jump = word(names, "JUMP", "0");
          if (w[1].equals("FAIL")) {
            jump.more = 1;
            expand("LI r4 " + w[2], names, go);
          }
          expand("GO", names, go);
          jump.sized = items.get(items.size() - 1);
        }
        case "SKIPWHEN" -> expand("SKIP FAIL 0", names, go);
        default -> {
          Item made = word(names, w);
          if (part.contains("|GO|")) sizeOfNext = made;
        }
      }
    }
  }

  // The word that tells the size of the GO behind it.
  private Item sizeOfNext;

  private Item word(Map<String, Integer> names, String... w) {
    Item item = new Item();
    item.word = w;
    item.names = names;
    items.add(item);
    return item;
  }

  private int globals() {
    int all = 0;
    for (int n : model.lengths) all += n;
    return all;
  }

  private int valueOf(Item item, String name) {
    if (name.startsWith("low:")) return valueOf(item, name.substring(4)) & 255;
    if (name.startsWith("high:")) return valueOf(item, name.substring(5)) >> 8 & 255;
    if (name.equals("pile")) return code + globals();
    if (name.equals("main")) {
      for (Model.Proc p : model.procs) if (p.name.equals("main")) return starts[p.enter];
    }
    if (name.equals("enter")) return starts[item.names.get("*enter")];
    if (name.equals("var")) {
      int at = code;
      for (int i = 0; i < item.names.get("*var"); i++) at += model.lengths.get(i);
      return at;
    }
    return item.names.containsKey(name) ? item.names.get(name) : Integer.parseInt(name);
  }

  private void write(int[] words, Item item) {
    if (item.go >= 0) {
      int to = starts[item.go];
      if (item.longer) {
        words[item.place] = 6 << 12 | 5 << 9 | to & 255;
        words[item.place + 1] = 7 << 12 | 5 << 9 | to >> 8;
        words[item.place + 2] = 13 << 12 | 5 << 9 | 5 << 6;
      } else {
        words[item.place] = 14 << 12 | to - item.place - 1 & 4095;
      }
      return;
    }
    String[] w = item.word;
    int op = java.util.Arrays.asList(OPS).indexOf(w[0]);
    int word = op << 12;
    int at = 1;
    if (op != 14 && op != 15) word |= register(w[at++]) << 9;
    if (op <= 5 || op >= 8 && op <= 10 || op == 13) word |= register(w[at++]) << 6;
    if (op <= 4) word |= register(w[at]) << 3;
    else if (op != 5 && op != 13 && op != 15) {
      int bits = op == 6 || op == 11 || op == 12 ? 9 : op == 7 ? 8 : op == 14 ? 12 : 6;
      int v = item.sized != null ? item.sized.size() + item.more : valueOf(item, w[at]);
      word |= v & (1 << bits) - 1;
    }
    words[item.place] = word;
  }

  private static int register(String name) {
    return name.charAt(1) - '0';
  }
}
