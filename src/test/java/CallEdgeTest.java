import java.util.Arrays;

/** Promises 1 to 19, one after the other: the edges that each of them names. */
final class CallEdgeTest {
  private static final int MIN = Integer.MIN_VALUE;
  private static final int MAX = Integer.MAX_VALUE;
  private static final String SMALL = "proc main(){out 1;}";
  // Text that takes two numbers, sends them, and ends with a condition of its own.
  private static final String SOME = "cond c;var v;var w[7];proc f(x,y){var z=x;out z;out y;return 3;}"
      + "proc main() raises c{v=f(in,in);w[6]=-1;raise c;}";

  private static GatedPile with(String text) {
    return Kit.compiled(text);
  }

  /** All that can be seen of an object without changing it. */
  private static int[] seen(GatedPile x) {
    int[] all = new int[60000];
    int n = 0;
    for (int what = 0; what < 2; what++) all[n++] = x.fault(what);
    for (int what = 0; what < 11; what++) all[n++] = x.count(what);
    for (int i = 0; i < x.count(2); i++) for (int what = 0; what < 4; what++) all[n++] = x.order(i, what);
    for (int p = 0; p < x.count(0); p++) for (int what = 0; what < 4; what++) all[n++] = x.proc(p, what);
    for (int at = 0; at < x.count(3); at++) all[n++] = x.word(at);
    for (int k = 0; k < 14; k++) all[n++] = x.look(k);
    for (int k = 0; k < 4104; k++) all[n++] = x.wire(k);
    for (int at = 0; at < 8192; at++) all[n++] = x.memory(at);
    for (int i = 0; i < 500; i++) all[n++] = x.output(i);
    return Arrays.copyOf(all, n);
  }

  private static void unchanged(String what, GatedPile x, int[] before) {
    Kit.due("what is as it was behind " + what, Arrays.equals(before, seen(x)), true);
  }

  private static void promise1() {
    Kit.sentence("1. An empty tape, no CODE; all flip-flops, the memory and clocks 0, no INPUT, no OUTPUT");
    GatedPile x = new GatedPile();
    for (int what : new int[] {0, 1, 2, 3, 4, 7, 8, 9, 10}) Kit.due("count(" + what + ")", x.count(what), 0);
    Kit.due("end(1)", x.end(1), -1);
    for (int what = 0; what < 4; what++) Kit.due("order(0, " + what + ")", x.order(0, what), -1);
    for (int what = 0; what < 4; what++) Kit.due("proc(0, " + what + ")", x.proc(0, what), -1);
    Kit.due("word(0)", x.word(0), -1);
    for (int k = 0; k < 14; k++) Kit.due("look(" + k + ")", x.look(k), 0);
    for (int k = 2; k < 196; k++) Kit.due("wire(" + k + ")", x.wire(k), 0);
    for (int at = 0; at < 8192; at++) Kit.due("memory(" + at + ")", x.memory(at), 0);
    for (int i = 0; i < 500; i++) Kit.due("output(" + i + ")", x.output(i), 0);
    Kit.due("reset", x.reset(), false);
    Kit.due("run", x.run(), -1);
  }

  private static void promise2() {
    Kit.sentence("2. Twenty bytes come behind the tape, of each number the highest first");
    for (int at = 0; at < 20; at++) {
      int[] five = {0x20202020, 0x20202020, 0x20202020, 0x20202020, 0x20202020};
      // A byte with its highest bit, which begins no token.
      five[at / 4] ^= (0x20 ^ 0x9f) << 24 - 8 * (at % 4);
      GatedPile x = new GatedPile();
      Kit.due("feed", x.feed(five[0], five[1], five[2], five[3], five[4]), 20);
      Kit.due("compile", x.compile(), -1);
      Kit.due("kind", x.fault(0), 1);
      Kit.due("place of byte " + at, x.fault(1), at);
    }
    Kit.sentence("2. how many it has. NONE when there would be more than 3000");
    GatedPile x = new GatedPile();
    for (int i = 1; i <= 150; i++) Kit.due("feed " + i, x.feed(MIN, MAX, -1, 0, 0x20202020), 20 * i);
    int[] before = seen(x);
    Kit.due("feed 151", x.feed(1, 2, 3, 4, 5), -1);
    unchanged("a feed that was refused", x, before);
    for (int kept = 2979; kept <= 2981; kept++) {
      x.end(0);
      for (int i = 0; i < 150; i++) x.feed(0, 0, 0, 0, 0);
      x.end(kept);
      Kit.due("feed behind " + kept, x.feed(0, 0, 0, 0, 0), kept <= 2980 ? kept + 20 : -1);
      Kit.due("tape behind " + kept, x.count(7), kept <= 2980 ? kept + 20 : kept);
    }
    // The tape that was full is as it was: the last byte and all others.
    x.end(0);
    Kit.feed(x, "proc main(){out 7;}" + Kit.times(" ", 2980) + "#");
    Kit.due("feed to a full one", x.feed('}', '}', '}', '}', '}'), -1);
    Kit.due("compile of the full one", x.compile() > 82, true);
    x.run();
    Kit.due("what it means", x.output(0), 7);
  }

  private static void promise3() {
    Kit.sentence("3. The tape has its first n bytes alone: n. NONE when it has not so many, or n is below 0");
    for (int has : new int[] {0, 20, 2980, 3000}) {
      GatedPile x = new GatedPile();
      for (int i = 0; i < has; i += 20) x.feed(0x20202020, 0x20202020, 0x20202020, 0x20202020, 0x20202020);
      int[] before = seen(x);
      for (int n : new int[] {-1, MIN, has + 1, MAX, 3001}) {
        Kit.due("end(" + n + ") of " + has, x.end(n), -1);
        unchanged("end(" + n + ")", x, before);
      }
      Kit.due("end(" + has + ")", x.end(has), has);
      unchanged("end with all", x, before);
      for (int n = has - 1; n >= Math.max(0, has - 3); n--) {
        Kit.due("end(" + n + ")", x.end(n), n);
        Kit.due("count(7)", x.count(7), n);
        Kit.due("end(" + (n + 1) + ")", x.end(n + 1), -1);
      }
      Kit.due("end(0)", x.end(0), 0);
      Kit.due("count(7)", x.count(7), 0);
    }
    GatedPile x = new GatedPile();
    Kit.feed(x, "proc main(){out 12345;}");
    Kit.due("end(18)", x.end(18), 18);
    x.feed('6' << 24 | ';' << 16 | '}' << 8 | ' ', 0x20202020, 0x20202020, 0x20202020, 0x20202020);
    Kit.due("compile", x.compile() > 82, true);
    x.run();
    Kit.due("its first bytes, and what came behind", x.output(0), 126);
    Kit.due("end(1) behind compile", x.end(1), -1);
    Kit.due("end(0) behind compile", x.end(0), 0);
  }

  // Of each kind of FAULT a text, and its place.
  private static final String[] FAULTY = {"proc main(){", "proc main(){q=1;}", "proc main(){main(1);}", "proc f(){out 9;}",
    "var b[501];proc main(){}"};
  private static final int[] PLACES = {12, 12, 12, 16, 24};

  private static void promise4() {
    Kit.sentence("4. The tape (empty then, in any case) becomes the text: how many words CODE has");
    GatedPile x = new GatedPile();
    Kit.feed(x, SMALL);
    int words = x.compile();
    Kit.due("words", words, x.count(3));
    Kit.due("the last word", x.word(words - 1) >= 0, true);
    Kit.due("behind the last word", x.word(words), -1);
    Kit.due("tape", x.count(7), 0);
    Kit.sentence("4. NONE when there is a FAULT: the CODE that was stays. (The memory and all else of the processor stay, too.)");
    x = with(SOME);
    x.input(5);
    x.input(-6);
    Kit.due("run", x.run(), 6);
    for (int i = 0; i < 5; i++) {
      int[] before = seen(x);
      Kit.feed(x, FAULTY[i]);
      Kit.due("compile of " + FAULTY[i], x.compile(), -1);
      Kit.due("kind", x.fault(0), i + 1);
      Kit.due("place", x.fault(1), PLACES[i]);
      Kit.due("tape behind a FAULT", x.count(7), 0);
      int[] after = seen(x);
      after[0] = before[0];
      after[1] = before[1];
      Kit.due("all but the FAULT behind " + FAULTY[i], Arrays.equals(before, after), true);
      Kit.due("reset to the CODE that stays", x.reset(), true);
      Kit.due("run of the CODE that stays", x.run(), 6);
    }
    Kit.due("compile of no tape", x.compile(), -1);
    Kit.due("its kind", x.fault(0), 4);
    Kit.due("its place", x.fault(1), 0);
    Kit.due("run of the CODE that stays", x.run(), 6);
    Kit.sentence("4. (The memory and all else of the processor stay, too.)");
    x.clock(5000);
    x.reset();
    x.clock(333);
    int[] before = processor(x);
    Kit.feed(x, SMALL);
    Kit.due("compile", x.compile(), words);
    Kit.due("the processor is as it was", Arrays.equals(before, processor(x)), true);
    // It goes on with what its memory has.
    x.clock(5000);
    Kit.due("HALTED", x.look(13), 1);
    Kit.due("the condition of the CODE that was", x.look(4), 6);
    Kit.due("the OUTPUT of the CODE that was", x.output(1), -6);
    Kit.due("run", x.run(), 0);
    Kit.due("OUTPUT of the new one", x.output(0), 1);
    Kit.due("its INPUT is to come", x.count(8), 2);
    Kit.sentence("4. a FAULT when there was no CODE");
    for (String text : FAULTY) {
      x = new GatedPile();
      Kit.feed(x, text);
      Kit.due("compile of " + text, x.compile(), -1);
      for (int what = 0; what < 5; what++) Kit.due("count(" + what + ") behind " + text, x.count(what), 0);
      Kit.due("order(0, 0)", x.order(0, 0), -1);
      Kit.due("proc(0, 0)", x.proc(0, 0), -1);
      Kit.due("word(0)", x.word(0), -1);
      Kit.due("reset", x.reset(), false);
      Kit.due("run", x.run(), -1);
    }
  }

  private static int[] processor(GatedPile x) {
    int[] all = new int[14 + 4104 + 8192 + 500 + 3];
    int n = 0;
    for (int k = 0; k < 14; k++) all[n++] = x.look(k);
    for (int k = 0; k < 4104; k++) all[n++] = x.wire(k);
    for (int at = 0; at < 8192; at++) all[n++] = x.memory(at);
    for (int i = 0; i < 500; i++) all[n++] = x.output(i);
    for (int what = 8; what < 11; what++) all[n++] = x.count(what);
    return all;
  }

  private static void promise5() {
    Kit.sentence("5. NONE for another what, or ahead of any");
    GatedPile x = new GatedPile();
    Kit.due("fault(0) ahead of any", x.fault(0), -1);
    Kit.due("fault(1) ahead of any", x.fault(1), -1);
    Kit.feed(x, "x");
    Kit.due("fault(0) with a tape, ahead of any", x.fault(0), -1);
    Kit.sentence("5. Of the latest compile(): the kind of its FAULT (what 0; 0 without one), its place (1; NONE without one)");
    x.compile();
    Kit.due("fault(0)", x.fault(0), 1);
    Kit.due("fault(1)", x.fault(1), 0);
    for (int i = 0; i < 5; i++) {
      Kit.feed(x, FAULTY[i]);
      Kit.due("the one that was", x.fault(1), i == 0 ? 0 : -1);
      x.compile();
      Kit.due("fault(0)", x.fault(0), i + 1);
      Kit.due("fault(1)", x.fault(1), PLACES[i]);
      for (int what : new int[] {-1, 2, 3, MIN, MAX}) Kit.due("fault(" + what + ")", x.fault(what), -1);
      Kit.feed(x, SMALL);
      x.compile();
      Kit.due("fault(0) without one", x.fault(0), 0);
      Kit.due("fault(1) without one", x.fault(1), -1);
      for (int what : new int[] {-1, 2, 3, MIN, MAX}) Kit.due("fault(" + what + ")", x.fault(what), -1);
    }
  }

  private static void promise6() {
    Kit.sentence("6. 0 procs, 1 conditions, 2 orders, 3 words of CODE, 4 words of GLOBALS (0 to 4 are 0 without CODE)");
    GatedPile x = with(SOME);
    int words = 0;
    while (x.word(words) != -1) words++;
    int[] want = {2, 6, 25, words, 8};
    for (int what = 0; what < 5; what++) Kit.due("count(" + what + ")", x.count(what), want[what]);
    Kit.sentence("6. 5 gates, 6 the greatest DEPTH, 7 bytes of the tape");
    Kit.due("gates", x.count(5), 3892);
    Kit.due("DEPTH", x.count(6), 90);
    Kit.due("gates without CODE", new GatedPile().count(5), 3892);
    x.feed(0, 0, 0, 0, 0);
    x.end(11);
    Kit.due("count(7)", x.count(7), 11);
    Kit.sentence("6. 8 numbers of the INPUT that are to come");
    for (int i = 0; i < 3; i++) x.input(i);
    Kit.due("count(8)", x.count(8), 3);
    x.run();
    Kit.due("count(8) when two are taken", x.count(8), 1);
    x.input(9);
    Kit.due("count(8) with one more", x.count(8), 2);
    x.reset();
    Kit.due("count(8) behind reset", x.count(8), 4);
    Kit.sentence("6. 9 numbers of the OUTPUT (those beyond 500, too)");
    x = with("proc main(){while 1{out 1;out 2;}}");
    x.reset();
    int last = 0;
    for (int i = 0; i < 6 && last <= 502; i++) {
      for (int j = 0; j < 30000 && last < 499 + i; j++) {
        x.clock(1);
        last = x.count(9);
      }
      Kit.due("count(9)", last, 499 + i);
      Kit.due("output(499)", x.output(499), i == 0 ? 0 : 2);
      Kit.due("output(500)", x.output(500), 0);
    }
    Kit.sentence("6. 10 clocks since the latest reset");
    x = with("proc main(){while 1{}}");
    x.clock(7);
    Kit.due("count(10) without a reset", x.count(10), 7);
    x.reset();
    Kit.due("count(10) behind it", x.count(10), 0);
    x.clock(5);
    x.clock(6);
    Kit.due("count(10)", x.count(10), 11);
    x.run();
    Kit.due("count(10) of run", x.count(10), 20000);
    x.clock(1);
    Kit.due("count(10) behind run", x.count(10), 20001);
    Kit.sentence("6. NONE for another what");
    for (int what : new int[] {-1, 11, 12, MIN, MAX}) Kit.due("count(" + what + ")", x.count(what), -1);
  }

  private static void promises7to9() {
    Kit.sentence("7. NONE when there is none such, or for another what");
    GatedPile x = with(SOME);
    int orders = x.count(2);
    for (int what = 0; what < 4; what++) {
      for (int i : new int[] {-1, orders, orders + 1, 3000, MIN, MAX}) Kit.due("order(" + i + ", " + what + ")", x.order(i, what), -1);
    }
    Kit.due("the last order", x.order(orders - 1, 0), 26);
    Kit.due("the last order's p", x.order(orders - 1, 1), 1);
    Kit.due("the last order's L", x.order(orders - 1, 2), -1);
    Kit.due("the last order's place", x.order(orders - 1, 3), x.count(3) - 9);
    for (int what : new int[] {-1, 4, 5, MIN, MAX}) {
      Kit.due("order(0, " + what + ")", x.order(0, what), -1);
      Kit.due("order(" + (orders - 1) + ", " + what + ")", x.order(orders - 1, what), -1);
    }
    Kit.sentence("8. Of proc p: what 0 its parameters, 1 SIZE, 2 WANT, 3 the order that is its ENTER. NONE when there is none such");
    int[][] procs = {{2, 5, 3 + 1 + 3, 0}, {0, 2, 2 + 2 + 3, 12}};
    for (int p = 0; p < 2; p++) for (int what = 0; what < 4; what++) Kit.due("proc(" + p + ", " + what + ")", x.proc(p, what), procs[p][what]);
    for (int what = 0; what < 4; what++) {
      for (int p : new int[] {-1, 2, 3, 39, 40, MIN, MAX}) Kit.due("proc(" + p + ", " + what + ")", x.proc(p, what), -1);
    }
    for (int what : new int[] {-1, 4, 5, MIN, MAX}) Kit.due("proc(1, " + what + ")", x.proc(1, what), -1);
    Kit.sentence("9. Word at of CODE, without sign; NONE when there is none");
    int words = x.count(3);
    for (int at : new int[] {-1, words, words + 1, 5999, 6000, 8191, MIN, MAX}) Kit.due("word(" + at + ")", x.word(at), -1);
    Kit.due("word(0)", x.word(0), 0x6800);
    Kit.due("a word without sign", x.word(7), 0xf000);
    Kit.due("the last word", x.word(words - 1), 0xdb40);
    // A smaller CODE has no more of those that were.
    Kit.feed(x, SMALL);
    int fewer = x.compile();
    Kit.due("fewer words", fewer < words, true);
    Kit.due("word behind fewer", x.word(fewer), -1);
    Kit.due("order behind fewer", x.order(x.count(2), 0), -1);
    Kit.due("proc behind fewer", x.proc(1, 0), -1);
  }

  private static void promise10() {
    Kit.sentence("10. Of a gate the wires (w 0, 1); of a flip-flop the wire that it becomes (w 0). NONE for other wires, or another w");
    GatedPile x = new GatedPile();
    for (int wire : new int[] {MIN, -1, 0, 1, 196, 211, 4104, 4105, MAX}) {
      for (int w = -1; w <= 2; w++) Kit.due("net(" + wire + ", " + w + ")", x.net(wire, w), -1);
    }
    for (int wire : new int[] {2, 195}) {
      Kit.due("net(" + wire + ", 0)", x.net(wire, 0) >= 212, true);
      for (int w : new int[] {MIN, -1, 1, 2, MAX}) Kit.due("net(" + wire + ", " + w + ")", x.net(wire, w), -1);
    }
    for (int wire : new int[] {212, 4103}) {
      Kit.due("net(" + wire + ", 0)", x.net(wire, 0) >= 0, true);
      Kit.due("net(" + wire + ", 1)", x.net(wire, 1) >= 0, true);
      for (int w : new int[] {MIN, -1, 2, MAX}) Kit.due("net(" + wire + ", " + w + ")", x.net(wire, w), -1);
    }
    // The first gate is NOT of IR 6; the last two flip-flops' rows end the net.
    Kit.due("net(212, 0)", x.net(212, 0), 24);
    Kit.due("net(212, 1)", x.net(212, 1), 24);
    Kit.due("net(195, 0)", x.net(195, 0), 4103);
  }

  private static void promise11() {
    Kit.sentence("11. A number comes behind the INPUT (its lowest 16 bits, with sign): true");
    int[] given = {0, 1, -1, 32767, 32768, -32768, -32769, 65535, 65536, 65537, 0x12348765, MIN, MAX};
    for (int v : given) {
      GatedPile x = with("proc main(){out in;}");
      Kit.due("input(" + v + ")", x.input(v), true);
      Kit.due("run", x.run(), 0);
      Kit.due("what came of " + v, x.output(0), (short) v);
    }
    Kit.sentence("11. false when it has 200 (also such as were taken)");
    GatedPile x = with("proc main(){out in;out in;}");
    for (int i = 0; i < 200; i++) {
      Kit.due("count(8)", x.count(8), i);
      Kit.due("input " + i, x.input(i), true);
    }
    int[] before = seen(x);
    Kit.due("the 201st", x.input(7), false);
    unchanged("an input that was refused", x, before);
    x.run();
    Kit.due("two are taken", x.count(8), 198);
    Kit.due("the 201st when two are taken", x.input(7), false);
    Kit.due("still 198", x.count(8), 198);
    x.clear();
    Kit.due("count(8) behind clear", x.count(8), 0);
    for (int i = 0; i < 200; i++) Kit.due("input " + i + " behind clear", x.input(i), true);
    Kit.due("the 201st behind clear", x.input(7), false);
    // The last of 200 is there, and no more.
    x = with("proc main() raises empty{var i=0;while i<199{i=i+1;if in{out i;}}out in;out in;}");
    for (int i = 0; i < 200; i++) x.input(i < 199 ? 0 : -5);
    x.input(8);
    x.reset();
    for (int i = 0; i < 20; i++) x.clock(5000);
    Kit.due("HALTED", x.look(13), 1);
    Kit.due("the condition empty", x.look(4), 4);
    Kit.due("the 200th", x.output(0), -5);
    Kit.due("numbers that were sent", x.count(9), 1);
  }

  private static void promise12() {
    Kit.sentence("12. There is no INPUT any more");
    GatedPile x = with("proc main() raises empty{out in;out in;}");
    x.clear();
    Kit.due("run without", x.run(), 4);
    x.input(1);
    x.input(2);
    x.clear();
    Kit.due("count(8)", x.count(8), 0);
    Kit.due("run behind clear", x.run(), 4);
    Kit.due("nothing was sent", x.count(9), 0);
    x.input(3);
    Kit.due("run with one", x.run(), 4);
    Kit.due("the one that came behind clear", x.output(0), 3);
    int[] before = seen(x);
    Kit.due("one was taken", x.count(8), 0);
    x.clear();
    // The processor and its OUTPUT are as they were.
    unchanged("clear when all were taken", x, before);
    x.input(4);
    x.input(5);
    Kit.due("count(8) behind clear and two", x.count(8), 2);
    Kit.due("run with two", x.run(), 0);
    Kit.due("the first of them", x.output(0), 4);
    Kit.due("the last of them", x.output(1), 5);
  }

  private static void promise13() {
    Kit.sentence("13. false without CODE");
    GatedPile x = new GatedPile();
    x.input(5);
    x.clock(99);
    int[] before = seen(x);
    Kit.due("reset", x.reset(), false);
    unchanged("a reset that was refused", x, before);
    Kit.sentence("13. the memory is CODE, and 0 behind it, all flip-flops are 0, no OUTPUT, all the INPUT is to come, no clocks: true");
    x = with(SOME);
    x.input(5);
    x.input(6);
    x.run();
    Kit.due("OUTPUT ahead", x.count(9), 2);
    Kit.due("reset", x.reset(), true);
    for (int at = 0; at < 8192; at++) {
      Kit.due("memory(" + at + ")", x.memory(at), at < x.count(3) ? (short) x.word(at) : 0);
    }
    for (int k = 0; k < 14; k++) Kit.due("look(" + k + ")", x.look(k), 0);
    for (int k = 2; k < 196; k++) Kit.due("wire(" + k + ")", x.wire(k), 0);
    Kit.due("DATA is the first word", x.wire(196 + 11), x.word(0) >> 11 & 1);
    Kit.due("OUTPUT", x.count(9), 0);
    Kit.due("output(0)", x.output(0), 0);
    Kit.due("INPUT", x.count(8), 2);
    Kit.due("clocks", x.count(10), 0);
    Kit.due("CODE", x.count(3) > 82, true);
    Kit.due("reset again", x.reset(), true);
  }

  private static void promise14() {
    Kit.sentence("14. Up to n clocks (0 .. 5000). NONE for another n");
    GatedPile x = with("proc main(){while 1{}}");
    x.reset();
    x.clock(3);
    int[] before = seen(x);
    for (int n : new int[] {-1, 5001, 5002, 20000, MIN, MAX}) {
      Kit.due("clock(" + n + ")", x.clock(n), -1);
      unchanged("clock(" + n + ")", x, before);
    }
    Kit.due("clock(0)", x.clock(0), 0);
    unchanged("clock(0)", x, before);
    Kit.due("clock(1)", x.clock(1), 1);
    Kit.due("clock(4999)", x.clock(4999), 4999);
    Kit.due("clock(5000)", x.clock(5000), 5000);
    Kit.due("count(10)", x.count(10), 10003);
    Kit.sentence("14. till it is HALTED: how many were done");
    x = with(SMALL);
    x.reset();
    int all = x.clock(5000);
    Kit.due("HALTED", x.look(13), 1);
    before = seen(x);
    Kit.due("clock when HALTED", x.clock(5000), 0);
    Kit.due("clock(0) when HALTED", x.clock(0), 0);
    unchanged("clock when HALTED", x, before);
    for (int n = all - 2; n <= all + 2; n++) {
      x.reset();
      Kit.due("clock(" + n + ")", x.clock(n), Math.min(n, all));
      Kit.due("HALTED behind clock(" + n + ")", x.look(13), n >= all ? 1 : 0);
      Kit.due("count(10)", x.count(10), Math.min(n, all));
    }
    Kit.due("clock without CODE", new GatedPile().clock(10), 10);
  }

  /** An object that has done so many clocks in all, and has CODE of a text. */
  private static GatedPile used(int clocks, String text) {
    GatedPile x = with("proc main(){while 1{}}");
    int left = clocks;
    for (; left >= 20000; left -= 20000) Kit.due("run", x.run(), -3);
    for (; left > 0; left -= 5000) Kit.due("clock", x.clock(Math.min(left, 5000)), Math.min(left, 5000));
    Kit.feed(x, text);
    Kit.due("compile", x.compile() > 82, true);
    return x;
  }

  private static void lastClocks() {
    Kit.sentence("14. or 1000000 have been done in all (by clock() and run(), whatever was reset)");
    for (int left : new int[] {0, 1, 4999, 5000, 5001}) {
      GatedPile x = used(1000000 - left, "proc main(){while 1{}}");
      x.reset();
      Kit.due("clock(5000) with " + left + " left", x.clock(5000), Math.min(left, 5000));
      Kit.due("count(10)", x.count(10), Math.min(left, 5000));
      Kit.due("clock(5000) again", x.clock(5000), Math.max(0, left - 5000));
      Kit.due("clock(5000) with none left", x.clock(5000), 0);
      Kit.due("clock(0) with none left", x.clock(0), 0);
      Kit.due("clock(-1) with none left", x.clock(-1), -1);
      Kit.due("clock(5001) with none left", x.clock(5001), -1);
      Kit.due("reset with none left", x.reset(), true);
      Kit.due("clock behind that reset", x.clock(1), 0);
      Kit.due("run with none left", x.run(), -3);
      Kit.due("count(10)", x.count(10), 0);
    }
    GatedPile x = with(SMALL);
    x.reset();
    int all = x.clock(5000);
    for (int left = all - 1; left <= all + 1; left++) {
      x = used(1000000 - left, SMALL);
      Kit.due("run of " + all + " with " + left + " left", x.run(), left >= all ? 0 : -3);
      Kit.due("clocks of it", x.count(10), Math.min(left, all));
      Kit.due("HALTED", x.look(13), left >= all ? 1 : 0);
      Kit.due("a clock more", x.clock(1), 0);
    }
    for (int left : new int[] {19999, 20000, 20001}) {
      x = used(1000000 - left, "proc main(){while 1{}}");
      Kit.due("run with " + left + " left", x.run(), -3);
      Kit.due("clocks of it", x.count(10), Math.min(left, 20000));
      Kit.due("clock behind it", x.clock(5000), left == 20001 ? 1 : 0);
    }
  }

  private static void promise15() {
    Kit.sentence("15. NONE without CODE");
    GatedPile x = new GatedPile();
    x.input(3);
    x.clock(77);
    int[] before = seen(x);
    Kit.due("run", x.run(), -1);
    unchanged("a run that was refused", x, before);
    Kit.sentence("15. It is reset, and clocked as by clock(): the condition with which it ended, 0 without one");
    x = with(SOME);
    x.input(5);
    x.input(6);
    for (int turn = 0; turn < 3; turn++) {
      Kit.due("run", x.run(), 6);
      Kit.due("numbers that were sent", x.count(9), 2);
      Kit.due("numbers that are to come", x.count(8), 0);
      Kit.due("HALTED", x.look(13), 1);
      before = seen(x);
      x.reset();
      x.clock(5000);
      unchanged("reset and clock instead of run", x, before);
      x.reset();
      x.clock(turn * 50);
    }
    Kit.due("0 without one", with(SMALL).run(), 0);
    Kit.sentence("15. -2 for FULL, -3 when it did not end, at most 20000 clocks");
    x = with("proc f(){var a=1;f();}proc main(){f();}" + "var a0[500];var a1[500];var a2[500];var a3[500];var a4[500];var a5[500];"
        + "var a6[500];var a7[500];var a8[500];var a9[500];var b0[500];");
    Kit.due("run that is FULL", x.run(), -3);
    x = with("proc f(){if 0{var a=1;var b=1;var c=1;var d=1;var e=1;var g=1;var h=1;var i=1;}f();}proc main(){f();}var a0[500];"
        + "var a1[500];var a2[500];var a3[500];var a4[500];var a5[500];var a6[500];var a7[500];var a8[500];var a9[500];var b0[500];");
    Kit.due("run that is FULL in time", x.run(), -2);
    Kit.due("its r4", x.look(4), -1);
    x = with("proc main(){while 1{}}");
    Kit.due("run without an end", x.run(), -3);
    Kit.due("its clocks", x.count(10), 20000);
    Kit.due("HALTED", x.look(13), 0);
    Kit.due("it can be clocked on", x.clock(5), 5);
  }

  private static void promise16() {
    Kit.sentence("16. 0 or 1; NONE when there is none such");
    GatedPile x = with(SOME);
    for (int k : new int[] {MIN, -1, 4104, 4105, MAX}) Kit.due("wire(" + k + ")", x.wire(k), -1);
    Kit.due("wire(0)", x.wire(0), 0);
    Kit.due("wire(1)", x.wire(1), 1);
    for (int k = 0; k < 4104; k++) Kit.due("wire(" + k + ") is 0 or 1", x.wire(k) == 0 || x.wire(k) == 1, true);
    Kit.sentence("16. A wire as it is now (by the flip-flops and the memory as they are)");
    for (int turn = 0; turn < 3; turn++) {
      x.reset();
      Kit.due("DATA behind reset", data(x), x.word(0));
      x.clock(1);
      Kit.due("IR behind a clock", group(x, 18), x.look(9));
      Kit.due("PC behind a clock", group(x, 2), x.look(8));
      x.clock(1);
      Kit.due("MAR behind two clocks", group(x, 34), 1);
      Kit.due("DATA behind two clocks", data(x), x.word(1));
      x.run();
      Kit.due("DATA behind run", data(x), x.memory(x.look(10)) & 65535);
      Kit.due("r4 behind run", group(x, 132), x.look(4));
      Kit.due("MDR behind run", group(x, 50), x.look(11));
    }
  }

  private static int group(GatedPile x, int first) {
    int word = 0;
    for (int i = 0; i < 16; i++) word |= x.wire(first + i) << i;
    return word;
  }

  private static int data(GatedPile x) {
    return group(x, 196);
  }

  private static void promise17() {
    Kit.sentence("17. 0 .. 7 a register, with sign; 8 PC, 9 IR, 10 MAR, 11 MDR, 12 S, without sign; 13 whether it is HALTED (1). NONE for another k");
    GatedPile x = Loader.at(Loader.nine(Loader.LI, 0, -1), Loader.nine(Loader.LI, 7, -256), Loader.near(Loader.STORE, 0, 0, 0),
        Loader.sign(Loader.CALL, 1, 0, 0), Loader.HALT);
    x.clock(4 + 2);
    Kit.due("r0", x.look(0), -1);
    Kit.due("r7", x.look(7), -256);
    Kit.due("MAR", x.look(10), 65535);
    Kit.due("MDR", x.look(11), 65535);
    Kit.due("S", x.look(12), 3);
    Kit.due("IR", x.look(9), 0x9000);
    Kit.due("not HALTED", x.look(13), 0);
    x.clock(3);
    Kit.due("PC", x.look(8), 65535);
    for (int k : new int[] {MIN, -1, 14, 15, MAX}) Kit.due("look(" + k + ")", x.look(k), -1);
    x = Loader.run(0xf000);
    Kit.due("HALTED", x.look(13), 1);
    Kit.due("IR of HALT", x.look(9), 0xf000);
    Kit.due("S when HALTED", x.look(12), 1);
  }

  private static void promises18and19() {
    Kit.sentence("18. The word of the memory at a place, with sign; 0 when there is none such");
    GatedPile x = Loader.run(Loader.nine(Loader.LI, 1, -1), Loader.high(1, 31), Loader.nine(Loader.LI, 2, -7),
        Loader.near(Loader.STORE, 2, 1, 0), Loader.near(Loader.STORE, 2, 0, 0), Loader.HALT);
    Kit.due("memory(8191)", x.memory(8191), -7);
    Kit.due("memory(0)", x.memory(0), -7);
    for (int at : new int[] {MIN, -1, 8192, 8193, 65280, 65281, 65535, MAX}) Kit.due("memory(" + at + ")", x.memory(at), 0);
    Kit.sentence("19. Number i of the OUTPUT, with sign (of the first 500); 0 when there is none such");
    x = with("proc main(){var i=0;while 1{i=i-1;out i;}}");
    x.reset();
    for (int i = 0; i < 3; i++) x.clock(5000);
    int many = x.count(9);
    Kit.due("some were sent", many > 2 && many < 500, true);
    Kit.due("output(0)", x.output(0), -1);
    Kit.due("the last", x.output(many - 1), -many);
    Kit.due("behind the last", x.output(many), 0);
    for (int i = 0; i < 20; i++) x.clock(5000);
    Kit.due("more than 500", x.count(9) > 501, true);
    Kit.due("output(499)", x.output(499), -500);
    for (int i : new int[] {MIN, -1, 500, 501, x.count(9) - 1, MAX}) Kit.due("output(" + i + ")", x.output(i), 0);
    Kit.due("run", x.run(), -3);
    many = x.count(9);
    Kit.due("the last of run", x.output(many - 1), -many);
    Kit.due("none of those ahead of it", x.output(many), 0);
    x.reset();
    Kit.due("output(0) behind reset", x.output(0), 0);
  }

  private static void queries() {
    Kit.sentence("A call that is refused changes nothing");
    GatedPile x = with(SOME);
    x.input(5);
    x.reset();
    x.clock(123);
    x.feed(1, 2, 3, 4, 5);
    x.end(7);
    int[] before = seen(x);
    for (int v : new int[] {MIN, -1, 8, 14, 211, 500, 5001, 8192, 65280, MAX}) {
      x.fault(v);
      x.end(v);
      Kit.due("count(7) behind end(" + v + ")", x.count(7), 7);
      x.count(v);
      x.order(v, 0);
      x.order(0, v);
      x.proc(v, 1);
      x.proc(1, v);
      x.word(v);
      x.net(v, 0);
      x.net(2, v);
      x.wire(v);
      x.look(v);
      x.memory(v);
      x.output(v);
      if (v < 0 || v > 5000) x.clock(v);
      unchanged("calls with " + v, x, before);
    }
  }

  /** The dearest calls first: the 512th is answered as well as the first. */
  private static void manyCalls() {
    Kit.sentence("An object is used for at most 512 calls after it has been made");
    GatedPile alike = with("proc main(){out 77;}");
    alike.run();
    GatedPile x = new GatedPile();
    String text = "proc main(){out 77;}" + Kit.times(" ", 2960) + "#" + Kit.times("x", 19);
    int calls = 0;
    for (int turn = 0; turn < 3; turn++) {
      Kit.feed(x, text);
      Kit.due("compile", x.compile() > 82, true);
      calls += 152;
    }
    for (; calls < 506; calls++) Kit.due("run", x.run(), 0);
    Kit.due("call 507", x.input(1), true);
    Kit.due("call 508", x.reset(), true);
    Kit.due("call 509", x.clock(5000), alike.count(10));
    Kit.due("call 510", x.wire(4103) >= 0, true);
    Kit.due("call 511", x.count(9), 1);
    Kit.due("call 512", x.output(0), 77);
  }

  public static void main(String[] args) {
    promise1();
    promise2();
    promise3();
    promise4();
    promise5();
    promise6();
    promises7to9();
    promise10();
    promise11();
    promise12();
    promise13();
    promise14();
    lastClocks();
    promise15();
    promise16();
    promise17();
    promises18and19();
    queries();
    manyCalls();
    Kit.finish();
  }
}
