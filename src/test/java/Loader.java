/**
 * Any words, run by the processor of an object that has no CODE: its memory is 0 (ADD r0 r0 r0), so that the PC comes to
 * 65280, where the next number of the INPUT is the word that is done. So a few words are put in, among them a JUMP that
 * leads back there, then a loop that takes a program from the INPUT. An object is used for less than 512 calls.
 */
final class Loader {
  static final int ADD = 0;
  static final int SUB = 1;
  static final int AND = 2;
  static final int XOR = 3;
  static final int LESS = 4;
  static final int HALF = 5;
  static final int LI = 6;
  static final int HI = 7;
  static final int LOAD = 8;
  static final int STORE = 9;
  static final int ADDI = 10;
  static final int JZ = 11;
  static final int JN = 12;
  static final int CALL = 13;
  static final int JUMP = 14;
  static final int HALT = 15 << 12;

  /** Where a program that is put in begins. */
  static final int START = 64;

  private Loader() {}

  /** A word by Part V: the registers d, a, b. */
  static int sign(int op, int d, int a, int b) {
    return op << 12 | d << 9 | a << 6 | b << 3;
  }

  /** LOAD, STORE, ADDI. */
  static int near(int op, int d, int a, int i6) {
    return op << 12 | d << 9 | a << 6 | i6 & 63;
  }

  /** LI, JZ, JN. */
  static int nine(int op, int d, int i9) {
    return op << 12 | d << 9 | i9 & 511;
  }

  static int high(int d, int i8) {
    return HI << 12 | d << 9 | i8;
  }

  static int jump(int i12) {
    return JUMP << 12 | i12 & 4095;
  }

  private static void clocks(GatedPile x, int n) {
    int left = n;
    for (; left > 5000; left -= 5000) Kit.due("clock(5000)", x.clock(5000), 5000);
    Kit.due("clock", x.clock(left), left);
  }

  /** One word is done at 65280; then words that are 0 up to 65535, and on to 65280 again. */
  private static void once(GatedPile x, int word, boolean leadsBack) {
    x.clear();
    x.input(word);
    clocks(x, word >> 12 == STORE ? 3 : 2);
    x.clear();
    clocks(x, 2 * 255 + (leadsBack ? 2 : 2 * 65280));
  }

  private static void put(GatedPile x, int place, int word) {
    once(x, nine(LI, 1, word & 255), true);
    once(x, high(1, word >> 8), true);
    once(x, near(STORE, 1, 0, place), true);
  }

  /** An object whose processor stands at the beginning of a program, with r0 .. r7 as they came. */
  static GatedPile at(int... program) {
    GatedPile x = new GatedPile();
    clocks(x, 2 * 65280);
    once(x, nine(LI, 1, 0xff), false);
    once(x, high(1, 0xee), false);
    // JUMP -257, from 0 to 65280.
    once(x, near(STORE, 1, 0, 0), true);
    int[] loop = {nine(LI, 1, -256), nine(LI, 3, START), near(LOAD, 2, 1, 1), nine(JZ, 2, -2), near(LOAD, 2, 1, 0),
      near(STORE, 2, 3, 0), near(ADDI, 3, 3, 1), near(LOAD, 2, 1, 1), nine(JZ, 2, 1), jump(-6), jump(START - 12)};
    for (int i = 0; i < loop.length; i++) put(x, i + 1, loop[i]);
    // The JUMP goes, so that the loop is come to.
    once(x, nine(LI, 1, 0), true);
    once(x, near(STORE, 1, 0, 0), true);
    clocks(x, 2 * 2);
    x.clear();
    for (int word : program) Kit.due("input of a program's word", x.input(word), true);
    clocks(x, 5 + 13 * program.length + 2 * (program.length - 1) + 2);
    Kit.due("PC at the program", x.look(8), START);
    Kit.due("S at the program", x.look(12), 0);
    Kit.due("INPUT behind the program", x.count(8), 0);
    x.clear();
    return x;
  }

  /** The object behind a program that comes to a HALT. */
  static GatedPile run(int... program) {
    GatedPile x = at(program);
    x.clock(5000);
    Kit.due("HALTED", x.look(13), 1);
    return x;
  }
}
