/** Promises 1, 2 and 3: a new object and its tape. */
final class TapeTest {
  private static void newObject() {
    GatedPile x = new GatedPile();
    int[] counts = {0, 0, 0, 0, 0, 3892, 90, 0, 0, 0, 0};
    for (int what = 0; what < counts.length; what++) Kit.due("count(" + what + ")", x.count(what), counts[what]);
    for (int k = 0; k < 14; k++) Kit.due("look(" + k + ")", x.look(k), 0);
    for (int at = 0; at < 8192; at++) Kit.due("memory(" + at + ")", x.memory(at), 0);
    for (int i = 0; i < 500; i++) Kit.due("output(" + i + ")", x.output(i), 0);
    Kit.due("wire(0)", x.wire(0), 0);
    Kit.due("wire(1)", x.wire(1), 1);
    for (int k = 2; k < 212; k++) Kit.due("wire(" + k + ")", x.wire(k), 0);
    Kit.due("a gate", x.wire(212), 1);
    Kit.due("word(0)", x.word(0), -1);
    Kit.due("fault(0)", x.fault(0), -1);
    Kit.due("reset", x.reset(), false);
    Kit.due("run", x.run(), -1);
    x.clear();
    Kit.due("count(8) behind clear", x.count(8), 0);
    // Objects have nothing in common.
    GatedPile y = Kit.compiled("proc main(){out 1;}");
    y.run();
    Kit.due("another one's CODE", x.count(3), 0);
    Kit.due("another one's OUTPUT", x.count(9), 0);
  }

  private static void tape() {
    GatedPile x = new GatedPile();
    for (int i = 1; i <= 150; i++) {
      Kit.due("feed " + i, x.feed(-1, 0, 1, 2, 3), 20 * i);
      Kit.due("count(7)", x.count(7), 20 * i);
    }
    Kit.due("feed of too much", x.feed(0, 0, 0, 0, 0), -1);
    Kit.due("the tape that stays", x.count(7), 3000);
    for (int n : new int[] {-1, 3001, Integer.MIN_VALUE, Integer.MAX_VALUE}) {
      Kit.due("end(" + n + ")", x.end(n), -1);
      Kit.due("the tape that stays", x.count(7), 3000);
    }
    Kit.due("end(3000)", x.end(3000), 3000);
    Kit.due("end(2981)", x.end(2981), 2981);
    Kit.due("feed of one too much", x.feed(0, 0, 0, 0, 0), -1);
    Kit.due("the tape that stays", x.count(7), 2981);
    Kit.due("end(2982)", x.end(2982), -1);
    Kit.due("end(2980)", x.end(2980), 2980);
    Kit.due("feed of as much as fits", x.feed(0, 0, 0, 0, 0), 3000);
    Kit.due("end(0)", x.end(0), 0);
    Kit.due("count(7)", x.count(7), 0);
    Kit.due("end(1)", x.end(1), -1);
    Kit.due("feed", x.feed(0, 0, 0, 0, 0), 20);
  }

  /** What was cut off is gone, and what comes behind stands there. */
  private static void bytes() {
    GatedPile x = new GatedPile();
    Kit.feed(x, "proc main(){out 1;} proc main(){");
    x.end(16);
    // "257;" "}   " and blanks
    Kit.due("feed", x.feed('2' << 24 | '5' << 16 | '7' << 8 | ';', '}' << 24 | 0x202020, 0x20202020, 0x0a0d0920, '#' << 24 | 0xffffff), 36);
    Kit.due("compile", x.compile() > 82, true);
    Kit.due("run", x.run(), 0);
    Kit.due("output(0)", x.output(0), 257);
    Kit.due("count(7)", x.count(7), 0);
    // The highest byte first, also of numbers below 0.
    x.feed(0x80202020, 0x20202020, 0x20202020, 0x20202020, 0x20202020);
    x.compile();
    Kit.due("place of the byte 128", x.fault(1), 0);
    x.feed(0x20202080, 0x20202020, 0x20202020, 0x20202020, 0x20202020);
    x.compile();
    Kit.due("place of the byte 128", x.fault(1), 3);
    x.feed(0x20202020, 0x20202020, 0x20202020, 0x20202020, 0x20802020);
    x.compile();
    Kit.due("place of the byte 128", x.fault(1), 17);
    Kit.due("its kind", x.fault(0), 1);
  }

  public static void main(String[] args) {
    newObject();
    tape();
    bytes();
    Kit.finish();
  }
}
