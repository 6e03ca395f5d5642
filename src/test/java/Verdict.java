/** What compile() and fault() say of a text, beside what is due and beside what the Judge finds. */
final class Verdict {
  private Verdict() {}

  static void faulty(String text, int kind, int place) {
    GatedPile x = new GatedPile();
    Kit.feed(x, text);
    Kit.due("compile of " + text, x.compile(), -1);
    Kit.due("kind of " + text, x.fault(0), kind);
    Kit.due("place of " + text, x.fault(1), place);
    judged(text, kind, place);
  }

  static void good(String text) {
    GatedPile x = new GatedPile();
    Kit.feed(x, text);
    int words = x.compile();
    Kit.due("kind of " + text, x.fault(0), 0);
    Kit.due("place of " + text, x.fault(1), -1);
    Kit.due("words of " + text, words > 82, true);
    judged(text, 0, -1);
  }

  /** A fault at the place of the mark | in a text. */
  static void marked(int kind, String text) {
    int at = text.indexOf('|');
    faulty(text.substring(0, at) + text.substring(at + 1), kind, at);
  }

  /** A fault at the text's length. */
  static void behind(int kind, String text) {
    faulty(text, kind, text.length());
  }

  /** A text that is LARGE beside one that is not. */
  static void edge(String fits, String large) {
    good(fits);
    behind(5, large);
  }

  /** Both have the same to say of any text whose CODE is not too large. */
  static void asJudged(String text) {
    Judge j = new Judge(text);
    GatedPile x = new GatedPile();
    Kit.feed(x, text);
    boolean answered = x.compile() != -1;
    Kit.due("kind of " + text, x.fault(0), j.kind);
    Kit.due("place of " + text, x.fault(1), j.place);
    Kit.due("answer of " + text, answered, j.kind == 0);
  }

  private static void judged(String text, int kind, int place) {
    Judge j = new Judge(text);
    // The Judge doesn't know the size of CODE.
    if (kind == 5 && j.kind == 0) return;
    Kit.due("the Judge's kind of " + text, j.kind, kind);
    Kit.due("the Judge's place of " + text, j.place, place);
  }
}
