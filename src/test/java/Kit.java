import java.nio.charset.StandardCharsets;

/** What the tests share: feeding texts, and keeping count of answers. */
final class Kit {
  private static int wrong = 0;
  private static int asked = 0;
  private static String sentence = "";

  private Kit() {}

  /** The document's sentence that the answers from here on are due by. */
  static void sentence(String words) {
    sentence = "[" + words + "] ";
  }

  static void due(String what, long got, long want) {
    asked++;
    if (got == want) return;
    wrong++;
    if (wrong > 40) return;
    String named = what.length() > 400 ? what.substring(0, 400) + ".." : what;
    System.out.println(sentence + named + " answered " + got + ", due is " + want);
  }

  static void due(String what, boolean got, boolean want) {
    due(what, got ? 1 : 0, want ? 1 : 0);
  }

  /** Puts a text on the tape; it must be empty. */
  static void feed(GatedPile x, byte[] text) {
    for (int at = 0; at < text.length; at += 20) {
      int[] five = new int[5];
      for (int i = 0; i < 20; i++) {
        int b = at + i < text.length ? text[at + i] & 255 : 0;
        five[i / 4] |= b << 24 - 8 * (i % 4);
      }
      due("feed at " + at, x.feed(five[0], five[1], five[2], five[3], five[4]), at + 20);
    }
    due("end", x.end(text.length), text.length);
  }

  static void feed(GatedPile x, String text) {
    feed(x, text.getBytes(StandardCharsets.ISO_8859_1));
  }

  static GatedPile compiled(String text) {
    GatedPile x = new GatedPile();
    feed(x, text);
    int words = x.compile();
    if (words < 0) due("compile of " + text + ": fault " + x.fault(0) + " at " + x.fault(1), words, 0);
    return x;
  }

  /** A random program compiled; null when it is longer than a tape, or LARGE. */
  static GatedPile compiled(Model m, long seed) {
    String text = m.text();
    if (text.length() > 3000) text = m.text(true);
    if (text.length() > 3000) return null;
    GatedPile x = new GatedPile();
    feed(x, text);
    if (x.compile() >= 0) return x;
    due("fault of random program " + seed, x.fault(0), 5);
    return null;
  }

  static String times(String part, int n) {
    StringBuilder all = new StringBuilder();
    for (int i = 0; i < n; i++) all.append(part);
    return all.toString();
  }

  static void finish() {
    System.out.println(wrong == 0 ? asked + " answers are as due" : wrong + " of " + asked + " answers are not as due");
    if (wrong != 0) System.exit(1);
  }
}
