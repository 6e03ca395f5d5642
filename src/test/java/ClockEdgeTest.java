import java.util.Random;

/** Parts V and VI: what words do at their edges, by words that the Loader puts in. */
final class ClockEdgeTest {
  private static final int[] EDGES = {-32768, -32767, -257, -256, -2, -1, 0, 1, 2, 255, 256, 32766, 32767};

  /** Takes pairs from the INPUT and sends what some words make of them. */
  private static void pairs(String name, int op, java.util.function.IntBinaryOperator want) {
    GatedPile x = Loader.at(Loader.nine(Loader.LI, 0, -256), Loader.near(Loader.LOAD, 1, 0, 1), Loader.nine(Loader.JZ, 1, 5),
        Loader.near(Loader.LOAD, 1, 0, 0), Loader.near(Loader.LOAD, 2, 0, 0), Loader.sign(op, 3, 1, 2),
        Loader.near(Loader.STORE, 3, 0, 0), Loader.jump(-7), Loader.HALT);
    int[] values = {-32768, -32767, -256, -1, 0, 1, 255, 32766, 32767, 21845};
    for (int a : values) {
      for (int b : values) {
        Kit.due("input", x.input(a), true);
        Kit.due("input", x.input(b), true);
      }
    }
    x.clock(5000);
    Kit.due("HALTED", x.look(13), 1);
    Kit.due("numbers that were sent", x.count(9), 100);
    for (int i = 0; i < 100; i++) {
      int a = values[i / 10];
      int b = values[i % 10];
      Kit.due(name + " of " + a + " and " + b, x.output(i), (short) want.applyAsInt(a, b));
    }
  }

  private static void sums() {
    Kit.sentence("0 ADD d = a + b. 1 SUB a - b. 2 AND. 3 XOR. sums wrap");
    pairs("ADD", Loader.ADD, (a, b) -> a + b);
    pairs("SUB", Loader.SUB, (a, b) -> a - b);
    pairs("AND", Loader.AND, (a, b) -> a & b);
    pairs("XOR", Loader.XOR, (a, b) -> a ^ b);
    Kit.sentence("4 LESS: 1 if a < b (with sign), else 0");
    pairs("LESS", Loader.LESS, (a, b) -> a < b ? 1 : 0);
    Kit.sentence("5 HALF: a without sign by 2");
    pairs("HALF", Loader.HALF, (a, b) -> (a & 65535) / 2);
    Kit.sentence("10 ADDI d = a + i6; sums wrap");
    for (int a : new int[] {-32768, -32767, -1, 0, 1, 32766, 32767}) {
      GatedPile x = Loader.run(set(1, a, Loader.near(Loader.ADDI, 2, 1, 31), Loader.near(Loader.ADDI, 3, 1, -32),
          Loader.near(Loader.ADDI, 4, 1, 0), Loader.near(Loader.ADDI, 5, 1, 1), Loader.near(Loader.ADDI, 6, 1, -1),
          Loader.near(Loader.ADDI, 1, 1, 1)));
      int[] want = {a + 1, a + 31, a - 32, a, a + 1, a - 1};
      for (int r = 1; r <= 6; r++) Kit.due("ADDI to r" + r + " from " + a, x.look(r), (short) want[r - 1]);
    }
  }

  /** A program that has a number in a register first, and HALT in the end. */
  private static int[] set(int r, int v, int... words) {
    int[] all = new int[words.length + 3];
    all[0] = Loader.nine(Loader.LI, r, v & 255);
    all[1] = Loader.high(r, v >> 8 & 255);
    System.arraycopy(words, 0, all, 2, words.length);
    all[all.length - 1] = Loader.HALT;
    return all;
  }

  private static void numbers() {
    Kit.sentence("6 LI d = i9 (with sign). 7 HI d = 256 * i8 + the lowest eight bits of d");
    int[] nines = {-256, -255, -128, -1, 0, 1, 127, 128, 254, 255};
    for (int r = 0; r < 8; r++) {
      GatedPile x = Loader.run(Loader.nine(Loader.LI, r, nines[r]), Loader.HALT);
      Kit.due("LI r" + r + " " + nines[r], x.look(r), nines[r]);
    }
    for (int r = 6; r < 8; r++) {
      GatedPile x = Loader.run(Loader.nine(Loader.LI, r, nines[r + 2]), Loader.HALT);
      Kit.due("LI r" + r + " " + nines[r + 2], x.look(r), nines[r + 2]);
    }
    for (int low : new int[] {-256, -1, 0, 255}) {
      for (int high : new int[] {0, 1, 127, 128, 255}) {
        GatedPile x = Loader.run(Loader.nine(Loader.LI, 4, low), Loader.high(4, high), Loader.HALT);
        Kit.due("HI " + high + " behind LI " + low, x.look(4), (short) (256 * high + (low & 255)));
      }
    }
  }

  private static void places() {
    Kit.sentence("S 3: the word at MAR becomes MDR (at 65280: a number more of the OUTPUT; elsewhere beyond 8191 nothing)");
    GatedPile x = Loader.run(set(1, 8191, Loader.nine(Loader.LI, 5, 77), Loader.near(Loader.STORE, 5, 0, 0),
        Loader.near(Loader.STORE, 1, 1, 0), Loader.near(Loader.STORE, 1, 1, 1), Loader.near(Loader.STORE, 1, 1, 2),
        Loader.near(Loader.STORE, 1, 1, -1), Loader.near(Loader.LOAD, 2, 1, 0), Loader.near(Loader.LOAD, 3, 1, 1),
        Loader.near(Loader.LOAD, 4, 1, -1), Loader.near(Loader.LOAD, 6, 1, 2)));
    Kit.due("memory(8190)", x.memory(8190), 8191);
    Kit.due("memory(8191)", x.memory(8191), 8191);
    Kit.due("memory(8192)", x.memory(8192), 0);
    Kit.due("memory(0), which is not 8192", x.memory(0), 77);
    Kit.due("memory(1), which is not 8193", x.memory(1), (short) Loader.nine(Loader.LI, 1, -256));
    Kit.sentence("DATA is the word of the memory (0 .. 8191) at MAR; .. else 0");
    Kit.due("LOAD from 8191", x.look(2), 8191);
    Kit.due("LOAD from 8192", x.look(3), 0);
    Kit.due("LOAD from 8190", x.look(4), 8191);
    Kit.due("LOAD from 8193", x.look(6), 0);
    Kit.due("nothing was sent", x.count(9), 0);
    Kit.sentence("at 65280 the next number of the INPUT (0 without one), which is taken in a clock with S 2; at 65281 how many are left; else 0");
    x = Loader.at(set(1, 65280, Loader.near(Loader.LOAD, 2, 1, -1), Loader.near(Loader.LOAD, 3, 1, 1), Loader.near(Loader.LOAD, 4, 1, 2),
        Loader.near(Loader.LOAD, 5, 1, 0), Loader.near(Loader.LOAD, 6, 1, 1), Loader.near(Loader.LOAD, 7, 1, 0),
        Loader.near(Loader.LOAD, 0, 1, 0), Loader.near(Loader.LOAD, 1, 1, 1)));
    x.input(-7);
    x.input(9);
    x.clock(5000);
    int[] want = {0, 0, 0, 2, 0, -7, 1, 9};
    for (int r = 0; r < 8; r++) Kit.due("r" + r, x.look(r), want[r]);
    Kit.due("how many are left", x.count(8), 0);
    Kit.sentence("STORE beyond 8191: at 65280 alone a number more of the OUTPUT");
    x = Loader.at(set(1, 65280, Loader.near(Loader.STORE, 1, 1, -1), Loader.near(Loader.STORE, 1, 1, 1), Loader.near(Loader.STORE, 1, 1, 0),
        Loader.near(Loader.STORE, 0, 1, 0), Loader.near(Loader.STORE, 1, 0, -1), Loader.near(Loader.STORE, 1, 1, 31)));
    x.input(3);
    x.clock(5000);
    Kit.due("numbers that were sent", x.count(9), 2);
    Kit.due("output(0)", x.output(0), -256);
    Kit.due("output(1)", x.output(1), 0);
    Kit.due("STORE takes no INPUT", x.count(8), 1);
    Kit.sentence("8 LOAD d from the word at a + i6. 9 STORE d there; sums wrap");
    x = Loader.run(set(1, -1, Loader.near(Loader.STORE, 1, 1, 1), Loader.near(Loader.LOAD, 2, 1, 1), Loader.near(Loader.STORE, 1, 1, 31),
        Loader.near(Loader.LOAD, 3, 0, -1), Loader.near(Loader.LOAD, 4, 1, 31)));
    Kit.due("place 65535 + 1", x.memory(0), -1);
    Kit.due("LOAD from 65535 + 1", x.look(2), -1);
    Kit.due("place 65535 + 31", x.memory(30), -1);
    Kit.due("LOAD from 0 - 1", x.look(3), 0);
    Kit.due("LOAD from 65535 + 31", x.look(4), -1);
    x = Loader.run(set(1, 200, Loader.near(Loader.STORE, 1, 1, 31), Loader.near(Loader.STORE, 1, 1, -32), Loader.near(Loader.LOAD, 1, 1, -32)));
    Kit.due("place 231", x.memory(231), 200);
    Kit.due("place 168", x.memory(168), 200);
    Kit.due("d that is a itself", x.look(1), 200);
  }

  private static void fetches() {
    Kit.sentence("In a clock with S 0: IR becomes DATA, PC grows by 1: at 65280 no number is taken, and PC wraps");
    GatedPile x = new GatedPile();
    for (int i = 0; i < 26; i++) x.clock(5000);
    x.clock(560);
    Kit.due("PC", x.look(8), 65280);
    Kit.due("MAR", x.look(10), 65280);
    Kit.due("S", x.look(12), 0);
    x.input(Loader.nine(Loader.LI, 5, 99));
    x.clock(1);
    Kit.due("IR", x.look(9), Loader.nine(Loader.LI, 5, 99));
    Kit.due("not taken", x.count(8), 1);
    Kit.due("PC", x.look(8), 65281);
    x.clock(1);
    Kit.due("r5", x.look(5), 99);
    Kit.due("still not taken", x.count(8), 1);
    x.clock(1);
    Kit.due("the word at 65281: how many are left", x.look(9), 1);
    x.clock(1);
    x.clock(1);
    Kit.due("the word at 65282", x.look(9), 0);
    x.clock(1);
    x.clock(2 * 252);
    Kit.due("PC at the last place", x.look(8), 65535);
    x.clock(1);
    Kit.due("PC behind the last place", x.look(8), 0);
    Kit.due("MAR as long as it is done", x.look(10), 65535);
    x.clock(1);
    Kit.due("MAR behind the last place", x.look(10), 0);
  }

  /** Whether a jump of some kind is done from a register's value. */
  private static void jumps(int op, int v, boolean done) {
    GatedPile x = Loader.run(set(1, v, Loader.nine(op, 1, 1), Loader.nine(Loader.LI, 2, 77), Loader.nine(Loader.LI, 3, 78)));
    Kit.due("r2 behind op " + op + " with " + v, x.look(2) == 77, !done);
    Kit.due("r3 behind op " + op + " with " + v, x.look(3), 78);
  }

  private static void leaps() {
    Kit.sentence("11 JZ: on i9 words further than the next one, if d is 0. 12 JN: if d is below 0");
    for (int v : EDGES) {
      jumps(Loader.JZ, v, v == 0);
      jumps(Loader.JN, v, v < 0);
    }
    Kit.sentence("i6 .. i9 .. i12, all with sign; sums wrap");
    // Behind so many clocks: LI, HI, and the word itself.
    int[][] words = {{Loader.nine(Loader.JZ, 1, 255), 255}, {Loader.nine(Loader.JZ, 1, -256), -256}, {Loader.nine(Loader.JZ, 1, -1), -1},
      {Loader.nine(Loader.JZ, 1, 0), 0}, {Loader.jump(2047), 2047}, {Loader.jump(-2048), -2048}, {Loader.jump(-1), -1},
      {Loader.jump(0), 0}};
    for (int[] w : words) {
      GatedPile x = Loader.at(set(1, 0, w[0]));
      x.clock(6);
      Kit.due("PC behind " + w[0], x.look(8), Loader.START + 3 + w[1] & 65535);
      Kit.due("MAR behind " + w[0], x.look(10), Loader.START + 3 + w[1] & 65535);
      Kit.due("S behind " + w[0], x.look(12), 0);
    }
    for (int i9 : new int[] {-256, 255}) {
      GatedPile x = Loader.at(set(1, -1, Loader.nine(Loader.JN, 1, i9)));
      x.clock(6);
      Kit.due("PC behind JN " + i9, x.look(8), Loader.START + 3 + i9 & 65535);
    }
    Kit.sentence("13 CALL: d is the place of the next one, on at a (as it was)");
    GatedPile x = Loader.at(set(5, 300, Loader.sign(Loader.CALL, 5, 5, 0)));
    x.clock(6);
    Kit.due("PC behind CALL r5 r5", x.look(8), 300);
    Kit.due("r5 behind CALL r5 r5", x.look(5), Loader.START + 3);
    x = Loader.at(set(5, 65535, Loader.sign(Loader.CALL, 2, 5, 0)));
    x.clock(6);
    Kit.due("PC behind CALL r2 r5", x.look(8), 65535);
    Kit.due("r5 behind CALL r2 r5", x.look(5), -1);
    Kit.due("r2 behind CALL r2 r5", x.look(2), Loader.START + 3);
    x.clock(1);
    Kit.due("PC behind the last place", x.look(8), 0);
  }

  private static void halts() {
    Kit.sentence("HALT: MAR becomes PC, S stays 1. HALTED: S is 1 and IR's op 15");
    for (int word : new int[] {0xf000, 0xffff, 0xf123}) {
      GatedPile x = Loader.at(word);
      Kit.due("HALTED ahead of it", x.look(13), 0);
      Kit.due("clocks till HALTED", x.clock(5000), 1);
      Kit.due("S", x.look(12), 1);
      Kit.due("IR", x.look(9), word);
      Kit.due("HALTED", x.look(13), 1);
      Kit.due("clocks more", x.clock(5000), 0);
      Kit.due("PC", x.look(8), Loader.START + 1);
    }
    GatedPile x = Loader.at(0xefff, 0xf000);
    Kit.due("op 14 is no HALT", x.clock(100), 100);
    // A word of op 15 that is DATA, but not IR, is no HALT.
    x = Loader.run(set(1, 0xf000, Loader.near(Loader.STORE, 1, 0, 20), Loader.near(Loader.LOAD, 2, 0, 20)));
    Kit.due("a word of op 15 that is loaded", x.look(2), (short) 0xf000);
  }

  private static void lengths() {
    Kit.sentence("So each word takes 2 clocks, LOAD and STORE 3");
    for (int op = 0; op < 15; op++) {
      int word = op << 12 | 1 << 9;
      GatedPile x = Loader.at(set(1, 100, word, 0));
      x.clock(4);
      int[] states = op == Loader.LOAD ? new int[] {0, 1, 2, 0} : op == Loader.STORE ? new int[] {0, 1, 3, 0} : new int[] {0, 1, 0, 1};
      for (int s : states) {
        Kit.due("S of op " + op, x.look(12), s);
        x.clock(1);
      }
    }
    Kit.sentence("S 1: .. LOAD, STORE: MAR a + i6, S 2 or 3, of STORE MDR d. S 2: d becomes DATA, MAR PC, S 0. S 3: .. MAR PC, S 0");
    GatedPile x = Loader.at(set(1, 100, Loader.near(Loader.STORE, 1, 1, 5), Loader.near(Loader.LOAD, 2, 1, 5)));
    x.clock(4);
    int mdr = x.look(11);
    x.clock(1);
    Kit.due("MDR with S 1", x.look(11), mdr);
    x.clock(1);
    Kit.due("MDR with S 3", x.look(11), 100);
    Kit.due("MAR with S 3", x.look(10), 105);
    Kit.due("memory with S 3", x.memory(105), 0);
    x.clock(1);
    Kit.due("memory behind S 3", x.memory(105), 100);
    Kit.due("MAR behind S 3", x.look(10), x.look(8));
    x.clock(2);
    Kit.due("MAR with S 2", x.look(10), 105);
    Kit.due("MDR with S 2", x.look(11), 100);
    int before = x.look(2);
    Kit.due("r2 with S 2", before == 100, false);
    x.clock(1);
    Kit.due("r2 behind S 2", x.look(2), 100);
    Kit.due("MAR behind S 2", x.look(10), x.look(8));
  }

  // ---- any words at all, beside the gates

  private static final int[] FIRST = {68, 84, 100, 116, 132, 148, 164, 180, 2, 18, 34, 50, 66};

  private static void same(String when, GatedPile x, Gates g) {
    for (int k = 0; k < 13; k++) {
      int want = g.group(FIRST[k], k == 12 ? 2 : 16);
      Kit.due("look(" + k + ") " + when, x.look(k), k < 8 ? (short) want : want);
    }
    Kit.due("look(13) " + when, x.look(13), g.halted() ? 1 : 0);
    Kit.due("count(8) " + when, x.count(8), g.input.length - g.taken);
    Kit.due("count(9) " + when, x.count(9), g.output.size());
  }

  private static Gates gatesOf(GatedPile x) {
    Gates g = new Gates(x);
    for (int k = 0; k < 13; k++) {
      for (int i = 0; i < (k == 12 ? 2 : 16); i++) g.value[FIRST[k] + i] = x.look(k) >> i & 1;
    }
    for (int at = 0; at < 8192; at++) g.memory[at] = x.memory(at) & 65535;
    return g;
  }

  private static void anyWords(long seed) {
    Random random = new Random(seed);
    int[] program = new int[200];
    for (int i = 0; i < 200; i++) {
      program[i] = random.nextInt(65536);
      // Few HALTs, and jumps that are mostly short.
      if (program[i] >> 12 == 15) program[i] ^= random.nextInt(8) << 12;
      if (program[i] >> 12 >= 11 && random.nextInt(4) > 0) program[i] = program[i] & 0xfe00 | random.nextInt(4);
    }
    // Some of the registers point to places that are told, or that are the last of their kind.
    int[] told = {65280, 8191, 65280, 65281, 100, 65535, 0};
    for (int r = 1; r < 8; r++) {
      program[2 * r] = Loader.nine(Loader.LI, r, told[r - 1] & 255);
      program[2 * r + 1] = Loader.high(r, told[r - 1] >> 8);
    }
    GatedPile x = Loader.at(program);
    Gates g = gatesOf(x);
    g.input = new int[] {random.nextInt(65536), 5, random.nextInt(65536)};
    for (int v : g.input) x.input(v);
    g.settle();
    for (int i = 0; i < 400; i++) {
      boolean halted = g.halted();
      Kit.due("clock " + i + " of " + seed, x.clock(1), halted ? 0 : 1);
      if (halted) break;
      g.clock();
      same("behind clock " + i + " of any words " + seed, x, g);
    }
    for (int w = 0; w < g.value.length; w++) Kit.due("wire(" + w + ") of any words " + seed, x.wire(w), g.value[w]);
    for (int at = 0; at < 8192; at++) Kit.due("memory(" + at + ") of any words " + seed, x.memory(at), (short) g.memory[at]);
    for (int i = 0; i < g.output.size(); i++) Kit.due("output(" + i + ") of any words " + seed, x.output(i), g.output.get(i));
  }

  public static void main(String[] args) {
    sums();
    numbers();
    places();
    fetches();
    leaps();
    halts();
    lengths();
    Kit.sentence("What flip-flops become: the clocks go as the net tells");
    for (long seed = 0; seed < 60; seed++) anyWords(seed);
    Kit.finish();
  }
}
