/** Promise 9, and the places of promise 7: the words of random programs beside those of the Assembler. */
final class WordTest {
  private static int longOnes = 0;
  private static int compared = 0;

  private static void compare(long seed, int budget) {
    Model m = new Model(seed, budget, true);
    String text = m.text(true);
    if (text.length() > 3000) return;
    Assembler made = new Assembler(m);
    int[] words = made.words();
    int globals = 0;
    for (int n : m.lengths) globals += n;
    GatedPile x = new GatedPile();
    Kit.feed(x, text);
    boolean large = words.length + globals > 6000;
    Kit.due("compile of " + seed, x.compile(), large ? -1 : words.length);
    Kit.due("fault of " + seed, x.fault(0), large ? 5 : 0);
    Kit.due("its place of " + seed, x.fault(1), large ? text.length() : -1);
    if (large) return;
    compared++;
    longOnes += made.longOnes;
    Kit.due("words of " + seed, x.count(3), words.length);
    for (int i = 0; i < words.length; i++) Kit.due("word " + i + " of " + seed, x.word(i), words[i]);
    for (int i = 0; i < m.orders.size(); i++) Kit.due("place of " + i + " of " + seed, x.order(i, 3), made.placeOf(i));
    Kit.due("behind the words of " + seed, x.word(words.length), -1);
  }

  private static void edges() {
    GatedPile x = new GatedPile();
    Kit.due("word without CODE", x.word(0), -1);
    x = Kit.compiled("proc main(){out 300;}");
    int at = x.order(1, 3);
    int[] want = {6 << 12 | 300 & 255, 7 << 12 | 1, 9 << 12 | 7 << 6, 10 << 12 | 7 << 9 | 7 << 6 | 1,
      10 << 12 | 7 << 9 | 7 << 6 | 63, 8 << 12 | 7 << 6, 6 << 12 | 1 << 9, 7 << 12 | 1 << 9 | 255, 9 << 12 | 1 << 6};
    for (int i = 0; i < want.length; i++) Kit.due("word of PUSH 300, OUT: " + i, x.word(at + i), want[i]);
    Kit.due("OUT's place", x.order(2, 3), at + 4);
    for (int i : new int[] {-1, x.count(3), Integer.MIN_VALUE, Integer.MAX_VALUE}) Kit.due("word(" + i + ")", x.word(i), -1);
    Kit.due("a word has no sign", x.word(6), 56128);
    int[] sizes = {255, 256, 0, 32767};
    int[] words = {3, 4, 3, 4};
    for (int i = 0; i < 4; i++) {
      x = Kit.compiled("proc main(){out " + sizes[i] + ";}");
      Kit.due("words of PUSH " + sizes[i], x.order(2, 3) - x.order(1, 3), words[i]);
    }
  }

  public static void main(String[] args) {
    edges();
    for (long seed = 1000; seed < 1500; seed++) compare(seed, 20 + (int) (seed % 5) * 150);
    Kit.due("some hundred programs have been compared", compared > 200, true);
    Kit.due("some GO are the longer one", longOnes > 100, true);
    System.out.println(compared + " programs, " + longOnes + " longer GO");
    Kit.finish();
  }
}
