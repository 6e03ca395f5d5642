/** Promises 1, 13, 14, 16, 17 and 18: the processor beside one that is clocked gate by gate. */
final class ClockTest {
  private static final int[] FIRST = {68, 84, 100, 116, 132, 148, 164, 180, 2, 18, 34, 50, 66};

  private static void same(String when, GatedPile x, Gates g) {
    for (int k = 0; k < 13; k++) {
      int want = g.group(FIRST[k], k == 12 ? 2 : 16);
      Kit.due("look(" + k + ") " + when, x.look(k), k < 8 ? (short) want : want);
    }
    Kit.due("look(13) " + when, x.look(13), g.halted() ? 1 : 0);
    Kit.due("count(8) " + when, x.count(8), g.input.length - g.taken);
    Kit.due("count(9) " + when, x.count(9), g.output.size());
  }

  private static void sameWires(String when, GatedPile x, Gates g) {
    for (int w = 0; w < g.value.length; w++) Kit.due("wire(" + w + ") " + when, x.wire(w), g.value[w]);
  }

  private static void sameMemory(String when, GatedPile x, Gates g) {
    for (int at = 0; at < 8192; at++) Kit.due("memory(" + at + ") " + when, x.memory(at), (short) g.memory[at]);
  }

  private static void stepped(String text, int... input) {
    GatedPile x = Kit.compiled(text);
    Gates g = new Gates(x);
    for (int v : input) Kit.due("input", x.input(v), true);
    Kit.due("reset", x.reset(), true);
    g.input = input;
    for (int at = 0; at < x.count(3); at++) g.memory[at] = x.word(at);
    g.settle();
    same("behind reset", x, g);
    sameWires("behind reset", x, g);
    int clocks = 0;
    for (; clocks < 4000 && !g.halted(); clocks++) {
      g.clock();
      Kit.due("clock(1)", x.clock(1), 1);
      same("behind clock " + clocks + " of " + text, x, g);
      if (clocks % 101 == 0) sameWires("behind clock " + clocks + " of " + text, x, g);
      else Kit.due("wire", x.wire(211 + clocks % 3893), g.value[211 + clocks % 3893]);
    }
    Kit.due("count(10)", x.count(10), clocks);
    Kit.due("it is halted", x.look(13), 1);
    Kit.due("clock when HALTED", x.clock(5000), 0);
    Kit.due("count(10) when HALTED", x.count(10), clocks);
    sameMemory("in the end of " + text, x, g);
    for (int i = 0; i < g.output.size(); i++) Kit.due("output(" + i + ")", x.output(i), g.output.get(i));
    Kit.due("reset anew", x.reset(), true);
    Kit.due("all at once", x.clock(5000), clocks);
    same("all at once", x, g);
  }

  /** Without CODE the memory is 0, and the PC comes by the places of the INPUT. */
  private static void unguided() {
    GatedPile x = new GatedPile();
    Gates g = new Gates(x);
    same("of a new object", x, g);
    sameWires("of a new object", x, g);
    sameMemory("of a new object", x, g);
    // LOAD r1 [r0 + 0], which the place 65280 gives; then 65281 gives how many are left.
    int load = 8 << 12 | 1 << 9;
    g.input = new int[] {load, 7};
    x.input(load);
    x.input(7);
    g.settle();
    for (int turn = 0; turn < 27; turn++) {
      Kit.due("clock(5000)", x.clock(5000), 5000);
      for (int i = 0; i < 5000; i++) g.clock();
      same("unguided " + turn, x, g);
    }
    sameWires("unguided", x, g);
    Kit.due("count(10) without a reset", x.count(10), 135000);
    Kit.due("reset without CODE", x.reset(), false);
    Kit.due("count(10) behind a reset that was refused", x.count(10), 135000);
    same("behind a reset that was refused", x, g);
  }

  private static void wiresFollow() {
    GatedPile x = Kit.compiled("proc main(){out in;}");
    x.reset();
    for (int i = 0; i < 5000 && x.look(10) != 65281; i++) x.clock(1);
    Kit.due("DATA without INPUT", x.wire(196), 0);
    x.input(5);
    Kit.due("DATA behind input", x.wire(196), 1);
    x.input(5);
    Kit.due("DATA behind two", x.wire(196) + 2 * x.wire(197), 2);
    x.clear();
    Kit.due("DATA behind clear", x.wire(196) + x.wire(197), 0);
    x.input(-2);
    for (int i = 0; i < 50 && x.look(10) != 65280; i++) x.clock(1);
    Kit.due("DATA at 65280", x.wire(196) + 2 * x.wire(197) + 4 * x.wire(211), 6);
    Kit.due("not taken yet", x.count(8), 1);
    x.clock(1);
    Kit.due("taken", x.count(8), 0);
    Kit.due("where it went", x.look(0), -2);
    x.clock(5000);
    Kit.due("sent", x.output(0), -2);
    x.reset();
    Kit.due("to come again", x.count(8), 1);
    Kit.due("no OUTPUT", x.count(9), 0);
    Kit.due("no OUTPUT's number", x.output(0), 0);
    Kit.due("no clocks", x.count(10), 0);
  }

  private static void edges() {
    GatedPile x = Kit.compiled("proc main(){while 1{}}");
    for (int n : new int[] {-1, 5001, Integer.MIN_VALUE, Integer.MAX_VALUE}) Kit.due("clock(" + n + ")", x.clock(n), -1);
    Kit.due("clock(0)", x.clock(0), 0);
    for (int k : new int[] {-1, 14, Integer.MIN_VALUE, Integer.MAX_VALUE}) Kit.due("look(" + k + ")", x.look(k), -1);
    int behind = 212 + x.count(5);
    for (int k : new int[] {-1, behind, Integer.MIN_VALUE, Integer.MAX_VALUE}) Kit.due("wire(" + k + ")", x.wire(k), -1);
    for (int at : new int[] {-1, 8192, 65280, Integer.MIN_VALUE, Integer.MAX_VALUE}) {
      Kit.due("memory(" + at + ")", x.memory(at), 0);
    }
    Kit.due("the memory stays when a text is compiled", x.memory(0), 0);
    Kit.due("it clocks on what the memory has", x.clock(3), 3);
    Kit.due("PC", x.look(8), 2);
    x.reset();
    Kit.due("memory is CODE", x.memory(0), 26624);
    Kit.due("a word below 0", x.memory(6), (short) 56128);
    int done = 3;
    for (int i = 0; i < 40; i++) {
      Kit.due("run", x.run(), -3);
      Kit.due("clocks of it", x.count(10), 20000);
      done += 20000;
    }
    while (done + 5000 <= 1000000) {
      Kit.due("clock(5000)", x.clock(5000), 5000);
      done += 5000;
    }
    Kit.due("the last clocks", x.clock(5000), 1000000 - done);
    Kit.due("none are left", x.clock(5000), 0);
    Kit.due("none are left for run", x.run(), -3);
    Kit.due("though it was reset", x.count(10), 0);
  }

  public static void main(String[] args) {
    stepped("proc main(){}");
    stepped("var s; proc main(){var k=3; while k>0{s=s+k*k; k=k-1;} out s;}");
    stepped("var a[3]; proc main() raises divide{a[2]=-32767-1; out a[2]/7; out a[2]%-9; out 5/(a[0]);}");
    stepped("cond c; proc f(x) raises c{if x<=in{raise c;} return -x;} proc main(){try{out f(in)+1; f(0);}when c{out 9;}}",
        -5, 3, 7);
    stepped("proc main(){out 32767; out 255*128; try{out 256*128;}when range{out 1>=1;} out 1!=1;}");
    unguided();
    wiresFollow();
    edges();
    Kit.finish();
  }
}
