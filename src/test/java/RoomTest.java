import java.lang.management.ManagementFactory;

/** All calls of a run live in one room: what an object makes when it is made, and that no call makes anything. */
final class RoomTest {
  private static final com.sun.management.ThreadMXBean THREADS =
      (com.sun.management.ThreadMXBean) ManagementFactory.getThreadMXBean();

  private static long made() {
    return THREADS.getThreadAllocatedBytes(Thread.currentThread().getId());
  }

  private static final int[] FIVE = new int[5];

  private static void pack(byte[] text, int at) {
    for (int k = 0; k < 5; k++) FIVE[k] = 0;
    for (int i = 0; i < 20; i++) FIVE[i / 4] |= (at + i < text.length ? text[at + i] & 255 : 32) << 24 - 8 * (i % 4);
  }

  /** Every method of the face, with texts that are good and such as are not. */
  private static void allCalls(GatedPile x, byte[][] texts) {
    for (byte[] text : texts) {
      for (int at = 0; at < text.length; at += 20) {
        pack(text, at);
        x.feed(FIVE[0], FIVE[1], FIVE[2], FIVE[3], FIVE[4]);
      }
      x.end(text.length);
      x.compile();
      for (int v = -1; v < 20; v++) {
        x.fault(v);
        x.count(v);
        x.order(v, v & 3);
        x.proc(v, v & 3);
        x.word(v);
        x.net(200 + v, v & 1);
        x.wire(4090 + v);
        x.look(v);
        x.memory(v);
        x.output(v);
        x.input(v);
      }
      x.run();
      x.clear();
      x.reset();
      x.clock(100);
    }
  }

  public static void main(String[] args) {
    Kit.sentence("some 7.3 million fields and elements in all");
    String[] texts = {"proc main(){out 1;}", "proc main(){f(1);", "var v;proc main(){v=w;}", "proc main(){main(1);}", "var a[0];",
      "var a[0];proc main(){}", "cond c;var v;proc f(x) raises c{try{v=v*x/2%3+in;}when empty{raise c;}return -v;}proc main(){while f(2){}}",
      "var v;proc main(){try{" + Kit.times("v=v+1;", 200) + "}when range{}}"};
    byte[][] bytes = new byte[texts.length][];
    for (int i = 0; i < texts.length; i++) bytes[i] = texts[i].getBytes(java.nio.charset.StandardCharsets.ISO_8859_1);
    new GatedPile();
    allCalls(new GatedPile(), bytes);
    long before = made();
    long nothing = made() - before;
    before = made();
    GatedPile x = new GatedPile();
    long constructor = made() - before - nothing;
    // Elements of four bytes, most of them; 512 calls make no more.
    Kit.due("bytes of a new object: " + constructor, constructor > 0 && constructor < 500000, true);
    long least = Long.MAX_VALUE;
    // The Java machine makes some things of its own now and then.
    for (int turn = 0; turn < 5; turn++) {
      before = made();
      allCalls(x, bytes);
      least = Math.min(least, made() - before - nothing);
    }
    Kit.due("bytes that calls make", least, 0);
    Kit.finish();
  }
}
