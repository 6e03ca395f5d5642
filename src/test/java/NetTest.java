import java.util.ArrayList;
import java.util.HashMap;
import java.util.List;
import java.util.Map;
import java.util.Random;

/** Promises 10 and 6 (gates and DEPTH): the net beside the document's formulas, and beside what the clocks must do. */
final class NetTest {
  private static final List<int[]> gates = new ArrayList<>();
  private static final Map<String, Integer> wires = new HashMap<>();
  private static final Map<String, int[]> rows = new HashMap<>();
  private static final int[] becomes = new int[196];

  private static int n(int x, int y) {
    gates.add(new int[] {x, y});
    return 211 + gates.size();
  }

  private static int not(int x) {
    return n(x, x);
  }

  private static int apply(String maker, List<Integer> p) {
    int x = p.get(0);
    int y = p.size() > 1 ? p.get(1) : 0;
    switch (maker) {
      case "NOT": return not(x);
      case "AND": return not(n(x, y));
      case "OR": {
        int left = not(x);
        int right = not(y);
        return n(left, right);
      }
      case "XOR": {
        int m = n(x, y);
        int left = n(x, m);
        int right = n(y, m);
        return n(left, right);
      }
      default: {
        int no = not(x);
        int left = n(y, no);
        int right = n(p.get(2), x);
        return n(left, right);
      }
    }
  }

  // ---- formulas as they stand in the document

  private static String[] tokens;
  private static int at;

  private static int make(String formula, int bit) {
    tokens = formula.replace("(", " ( ").replace(")", " ) ").trim().split("\\s+");
    at = 0;
    return makeNext(bit);
  }

  private static int makeNext(int bit) {
    String token = tokens[at++];
    if (!token.matches("NOT|AND|OR|XOR|MUX")) return wireOf(token, bit);
    List<Integer> parts = new ArrayList<>();
    int many = token.equals("NOT") ? 1 : token.equals("MUX") ? 3 : 2;
    for (int i = 0; i < many; i++) {
      boolean within = tokens[at].equals("(");
      if (within) at++;
      parts.add(makeNext(bit));
      if (within) at++;
    }
    return apply(token, parts);
  }

  private static int wireOf(String name, int bit) {
    if (wires.containsKey(name)) return wires.get(name);
    if (rows.containsKey(name)) return rows.get(name)[bit];
    if (name.startsWith("I_")) return 18 + Math.min(bit, Integer.parseInt(name.substring(2)));
    int digits = name.length();
    while (Character.isDigit(name.charAt(digits - 1))) digits--;
    if (digits == 0) return Integer.parseInt(name);
    return rows.get(name.substring(0, digits))[Integer.parseInt(name.substring(digits))];
  }

  private static void one(String name, String formula) {
    wires.put(name, make(formula, 0));
  }

  private static void row(String name, String formula) {
    int[] made = new int[16];
    for (int i = 0; i < 16; i++) made[i] = make(formula, i);
    rows.put(name, made);
  }

  private static void sums(String name, String x, String y, String c) {
    int[] made = new int[16];
    int carry = wireOf(c, 0);
    for (int i = 0; i < 16; i++) {
      int a = wireOf(x, i);
      int b = wireOf(y, i);
      int m = n(a, b);
      int left = n(a, m);
      int right = n(b, m);
      int h = n(left, right);
      int k = n(h, carry);
      left = n(h, k);
      right = n(carry, k);
      made[i] = n(left, right);
      carry = n(m, k);
    }
    rows.put(name, made);
  }

  private static void from(String name, int first) {
    int[] row = new int[16];
    for (int i = 0; i < 16; i++) row[i] = first + i;
    rows.put(name, row);
  }

  private static void put(String name, int... row) {
    rows.put(name, row);
  }

  private static void port(String name, int x) {
    wires.put("x", x);
    wires.put("y", x + 1);
    wires.put("z", x + 2);
    row(name, "MUX z (MUX y (MUX x r0 r1) (MUX x r2 r3)) (MUX y (MUX x r4 r5) (MUX x r6 r7))");
  }

  private static void flips(int first, String row) {
    System.arraycopy(rows.get(row), 0, becomes, first, 16);
  }

  private static void build() {
    from("PC", 2);
    from("IR", 18);
    from("MAR", 34);
    from("MDR", 50);
    for (int k = 0; k < 8; k++) from("r" + k, 68 + 16 * k);
    from("DATA", 196);
    put("ZEROS", new int[16]);
    wires.put("S0", 66);
    wires.put("S1", 67);
    port("A", 18 + 6);
    port("B", 18 + 3);
    port("D", 18 + 9);
    for (int k = 0; k < 4; k++) one("n" + k, "NOT IR" + (12 + k));
    for (int j = 0; j < 16; j++) {
      String[] x = new String[4];
      for (int k = 0; k < 4; k++) x[k] = (j >> k & 1) == 1 ? "IR" + (12 + k) : "n" + k;
      one("OP" + j, "AND (AND " + x[0] + " " + x[1] + ") (AND " + x[2] + " " + x[3] + ")");
    }
    one("t0", "NOT S0");
    one("t1", "NOT S1");
    one("READ", "AND t0 t1");
    one("DO", "AND S0 t1");
    one("TAKE", "AND t0 S1");
    one("GIVE", "AND S0 S1");
    one("USE", "OR (OR OP8 OP9) OP10");
    row("Y", "MUX USE B I_5");
    one("MINUS", "OR OP1 OP4");
    row("X", "XOR MINUS Y");
    sums("V", "A", "X", "MINUS");
    one("L", "MUX (XOR A15 Y15) V15 A15");
    row("VV", "AND A B");
    row("VVV", "XOR A B");
    result();
    next();
    become();
  }

  private static void result() {
    int[] a = rows.get("A");
    int[] d = rows.get("D");
    int[] less = new int[16];
    less[0] = wires.get("L");
    int[] half = new int[16];
    int[] high = new int[16];
    for (int i = 0; i < 15; i++) half[i] = a[i + 1];
    for (int i = 0; i < 16; i++) high[i] = i < 8 ? d[i] : 18 + i - 8;
    put("LESS", less);
    put("HALF", half);
    put("HIGH", high);
    row("T", "MUX OP2 V VV");
    row("T", "MUX OP3 T VVV");
    row("T", "MUX OP4 T LESS");
    row("T", "MUX OP5 T HALF");
    row("T", "MUX OP6 T I_8");
    row("T", "MUX OP7 T HIGH");
    row("T", "MUX OP13 T PC");
    row("T", "MUX TAKE T DATA");
  }

  private static void next() {
    wires.put("one", 1);
    wires.put("zero", 0);
    sums("Q", "PC", "ZEROS", "one");
    wires.put("some", rows.get("D")[0]);
    for (int i = 1; i < 16; i++) one("some", "OR some D" + i);
    one("ZERO", "NOT some");
    one("JUMPS", "OR (AND OP11 ZERO) (AND OP12 D15)");
    one("G", "OR JUMPS OP14");
    row("F", "AND G (MUX OP14 I_8 I_11)");
    sums("W", "PC", "F", "zero");
    row("W", "MUX OP13 W A");
  }

  private static void become() {
    row("new", "MUX DO (MUX READ PC Q) W");
    flips(2, "new");
    row("new", "MUX READ IR DATA");
    flips(18, "new");
    one("MEM", "OR OP8 OP9");
    row("new", "MUX READ (MUX DO PC (MUX MEM W V)) MAR");
    flips(34, "new");
    one("HOLD", "AND DO OP9");
    row("new", "MUX HOLD MDR D");
    flips(50, "new");
    becomes[66] = make("OR READ (AND DO (OR OP9 OP15))", 0);
    becomes[67] = make("AND DO MEM", 0);
    one("SETS", "OR TAKE (AND DO (OR (OR n3 OP10) OP13))");
    for (int i = 0; i < 3; i++) one("m" + i, "NOT IR" + (9 + i));
    for (int k = 0; k < 8; k++) {
      String[] y = new String[3];
      for (int i = 0; i < 3; i++) y[i] = (k >> i & 1) == 1 ? "IR" + (9 + i) : "m" + i;
      one("E", "AND SETS (AND (AND " + y[0] + " " + y[1] + ") " + y[2] + ")");
      row("new", "MUX E r" + k + " T");
      flips(68 + 16 * k, "new");
    }
  }

  private static void structure(GatedPile x) {
    Kit.due("gates", x.count(5), gates.size());
    int[] depth = new int[212 + gates.size()];
    int deepest = 0;
    for (int i = 0; i < gates.size(); i++) {
      int[] g = gates.get(i);
      Kit.due("net(" + (212 + i) + ", 0)", x.net(212 + i, 0), g[0]);
      Kit.due("net(" + (212 + i) + ", 1)", x.net(212 + i, 1), g[1]);
      depth[212 + i] = 1 + Math.max(depth[g[0]], depth[g[1]]);
      deepest = Math.max(deepest, depth[212 + i]);
    }
    Kit.due("the greatest DEPTH", x.count(6), deepest);
    for (int f = 2; f < 196; f++) {
      Kit.due("net(" + f + ", 0)", x.net(f, 0), becomes[f]);
      Kit.due("net(" + f + ", 1)", x.net(f, 1), -1);
    }
    int behind = 212 + gates.size();
    for (int w : new int[] {Integer.MIN_VALUE, -1, 0, 1, 196, 211, behind, Integer.MAX_VALUE}) {
      Kit.due("net(" + w + ", 0)", x.net(w, 0), -1);
      Kit.due("net(" + w + ", 1)", x.net(w, 1), -1);
    }
    for (int w : new int[] {Integer.MIN_VALUE, -1, 2, Integer.MAX_VALUE}) {
      Kit.due("net(212, " + w + ")", x.net(212, w), -1);
      Kit.due("net(2, " + w + ")", x.net(2, w), -1);
    }
  }

  // ---- what a clock does (Part VI) on any flip-flops

  private static int word(int[] value, int first, int bits) {
    int word = 0;
    for (int i = 0; i < bits; i++) word |= value[first + i] << i;
    return word;
  }

  private static int sign(int v, int bits) {
    return v << 32 - bits >> 32 - bits;
  }

  /** PC, IR, MAR, MDR, S, r0 .. r7 behind a clock. */
  private static int[] clocked(int[] s, int data) {
    int[] t = s.clone();
    int op = s[1] >> 12;
    int d = 5 + (s[1] >> 9 & 7);
    int a = s[5 + (s[1] >> 6 & 7)];
    int b = s[5 + (s[1] >> 3 & 7)];
    if (s[4] == 0) {
      t[1] = data;
      t[0] = s[0] + 1 & 65535;
      t[4] = 1;
      return t;
    }
    t[2] = s[0];
    t[4] = 0;
    if (s[4] == 2) t[d] = data;
    if (s[4] != 1) return t;
    switch (op) {
      case 0: t[d] = a + b & 65535; break;
      case 1: t[d] = a - b & 65535; break;
      case 2: t[d] = a & b; break;
      case 3: t[d] = a ^ b; break;
      case 4: t[d] = (short) a < (short) b ? 1 : 0; break;
      case 5: t[d] = a / 2; break;
      case 6: t[d] = sign(s[1], 9) & 65535; break;
      case 7: t[d] = 256 * (s[1] & 255) + (s[d] & 255); break;
      case 8: case 9:
        t[2] = a + sign(s[1], 6) & 65535;
        t[4] = op == 8 ? 2 : 3;
        if (op == 9) t[3] = s[d];
        return t;
      case 10: t[d] = a + sign(s[1], 6) & 65535; break;
      case 11: if (s[d] == 0) t[0] = s[0] + sign(s[1], 9) & 65535; break;
      case 12: if (s[d] >= 32768) t[0] = s[0] + sign(s[1], 9) & 65535; break;
      case 13: t[d] = s[0]; t[0] = a; break;
      case 14: t[0] = s[0] + sign(s[1], 12) & 65535; break;
      default: t[4] = 1; break;
    }
    t[2] = t[0];
    return t;
  }

  private static final int[] FIRST = {2, 18, 34, 50, 66, 68, 84, 100, 116, 132, 148, 164, 180};

  private static void function(GatedPile x) {
    Random random = new Random(7);
    int all = 212 + x.count(5);
    int[] left = new int[all];
    int[] right = new int[all];
    for (int w = 2; w < all; w++) {
      left[w] = x.net(w, 0);
      right[w] = x.net(w, 1);
    }
    int[] value = new int[all];
    for (int turn = 0; turn < 6000; turn++) {
      int[] state = new int[13];
      for (int k = 0; k < 13; k++) state[k] = random.nextInt(k == 4 ? 4 : 65536);
      if (turn % 3 == 0) state[5 + random.nextInt(8)] = random.nextInt(3) == 0 ? 0 : 32768;
      int data = random.nextInt(65536);
      value[1] = 1;
      for (int k = 0; k < 13; k++) for (int i = 0; i < (k == 4 ? 2 : 16); i++) value[FIRST[k] + i] = state[k] >> i & 1;
      for (int i = 0; i < 16; i++) value[196 + i] = data >> i & 1;
      for (int w = 212; w < all; w++) value[w] = 1 - value[left[w]] * value[right[w]];
      int[] want = clocked(state, data);
      int[] got = new int[all];
      for (int f = 2; f < 196; f++) got[f] = value[left[f]];
      for (int k = 0; k < 13; k++) Kit.due("group " + k + " in turn " + turn, word(got, FIRST[k], k == 4 ? 2 : 16), want[k]);
    }
  }

  public static void main(String[] args) {
    build();
    GatedPile x = new GatedPile();
    structure(x);
    function(x);
    Kit.due("gates by the shared test", x.count(5), 3892);
    Kit.finish();
  }
}
