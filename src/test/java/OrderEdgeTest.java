/** Parts IV and V: edges of orders, frames and words. */
final class OrderEdgeTest {
  /** Orders with number, what 1 and what 2 of each. */
  private static void orders(String text, int... want) {
    GatedPile x = Kit.compiled(text);
    Kit.due("orders of " + text, x.count(2), want.length / 3);
    for (int i = 0; i < want.length; i++) {
      Kit.due("order(" + i / 3 + ", " + i % 3 + ") of " + text, x.order(i / 3, i % 3), want[i]);
    }
  }

  private static void handlers() {
    Kit.sentence("H is where a condition goes on: the HANDLE of the innermost try in whose first BLOCK it stands, else its proc's LEAVE");
    orders("proc main(){out in;}", 0, 0, -1, 19, 0, 5, 20, 0, -1, 1, 0, -1, 22, 0, -1, 26, 0, -1);
    orders("proc f(){out in;}proc main(){out in;}", 0, 0, -1, 19, 0, 5, 20, 0, -1, 1, 0, -1, 22, 0, -1, 26, 0, -1,
        0, 1, -1, 19, 0, 11, 20, 0, -1, 1, 0, -1, 22, 1, -1, 26, 1, -1);
    // In the first BLOCK, in a when, behind the try.
    orders("proc main(){try{out in;}when range{out in;}out in;}", 0, 0, -1, 19, 0, 4, 20, 0, -1, 15, 0, 10, 23, 0, -1, 24, 1, 7,
        25, 0, 14, 19, 0, 14, 20, 0, -1, 15, 0, 10, 19, 0, 14, 20, 0, -1, 1, 0, -1, 22, 0, -1, 26, 0, -1);
    // Ahead of a try, and in one within another: its HANDLE, that of the outer one in its when and its PASS.
    orders("proc main(){out in;try{try{out in;}when range{out in;}out in;}when index{}}", 0, 0, -1, 19, 0, 21, 20, 0, -1,
        19, 0, 6, 20, 0, -1, 15, 0, 12, 23, 0, -1, 24, 1, 9, 25, 0, 15, 19, 0, 15, 20, 0, -1, 15, 0, 12, 19, 0, 15, 20, 0, -1,
        15, 0, 19, 23, 0, -1, 24, 2, 18, 25, 0, 21, 15, 0, 19, 1, 0, -1, 22, 0, -1, 26, 0, -1);
  }

  private static void blocks() {
    Kit.sentence("if: E, 16 UNLESS 1, BLOCK, 1: (with else: E, UNLESS 1, BLOCK, 15 JUMP 2, 1: BLOCK, 2:)");
    orders("proc main(){if 1{}}", 0, 0, -1, 1, 1, -1, 16, 0, 3, 1, 0, -1, 22, 0, -1, 26, 0, -1);
    orders("proc main(){if 1{}else{}}", 0, 0, -1, 1, 1, -1, 16, 0, 4, 15, 0, 4, 1, 0, -1, 22, 0, -1, 26, 0, -1);
    Kit.sentence("while: 1: E, UNLESS 2, BLOCK, JUMP 1, 2:");
    orders("proc main(){while 1{}}", 0, 0, -1, 1, 1, -1, 16, 0, 4, 15, 0, 1, 1, 0, -1, 22, 0, -1, 26, 0, -1);
    Kit.sentence("try: BLOCK, JUMP 2, 23 HANDLE p, for each when 24 WHEN c .., 25 PASS H, then each BLOCK, JUMP 2; 2:");
    orders("proc main(){try{}when range{}}", 0, 0, -1, 15, 0, 6, 23, 0, -1, 24, 1, 5, 25, 0, 8, 15, 0, 6, 1, 0, -1, 22, 0, -1,
        26, 0, -1);
    orders("proc main(){try{}when error{}when range{out 1;}when index{}}", 0, 0, -1, 15, 0, 12, 23, 0, -1, 24, 5, 7, 24, 1, 8,
        24, 2, 11, 25, 0, 14, 15, 0, 12, 1, 1, -1, 20, 0, -1, 15, 0, 12, 15, 0, 12, 1, 0, -1, 22, 0, -1, 26, 0, -1);
  }

  private static void locals() {
    Kit.sentence("LOCALS are numbered: parameters from 0 on, each other one by how many hold there");
    GatedPile x = Kit.compiled("proc main(){}proc f(a,b){var c=a;if 1{var d=b;var e=d;}else{var d=c;}while 1{var e=a;}var g=b;}");
    int[] numbers = {2, 3, 4, 3, 3, 3};
    int seen = 0;
    for (int i = 0; i < x.count(2); i++) if (x.order(i, 0) == 3) Kit.due("k of PUT " + seen, x.order(i, 1), numbers[seen++]);
    Kit.due("PUTs", seen, numbers.length);
    int[] gets = {0, 1, 3, 2, 0, 1};
    seen = 0;
    for (int i = 0; i < x.count(2); i++) if (x.order(i, 0) == 2) Kit.due("k of GET " + seen, x.order(i, 1), gets[seen++]);
    Kit.due("GETs", seen, gets.length);
    Kit.sentence("(LOCAL k at BASE + k', k' = k, or k + 2 for k >= P)");
    x = Kit.compiled("proc main(){}proc f(a,b){var c=b;out c;}");
    int f = x.proc(1, 3);
    Kit.due("the last parameter", x.word(x.order(f + 1, 3)), 8 << 12 | 6 << 6 | 1);
    Kit.due("the first other one, put", x.word(x.order(f + 2, 3) + 2), 9 << 12 | 6 << 6 | 4);
    Kit.due("the first other one, got", x.word(x.order(f + 3, 3)), 8 << 12 | 6 << 6 | 4);
    Kit.sentence("SIZE words in all: P + 2 + the most of the other LOCALS at a time");
    size("proc main(){}", 2);
    size("proc main(){var a=1;}", 3);
    size("proc main(){if 1{var a=1;var b=1;}else{var c=1;}}", 4);
    size("proc main(){if 1{var a=1;var b=1;}var c=1;}", 4);
    size("proc main(){var c=1;if 1{var a=1;var b=1;}}", 5);
    size("proc f(a,b,c){if 1{var d=1;}}proc main(){}", 6);
  }

  private static void size(String text, int size) {
    GatedPile x = Kit.compiled(text);
    Kit.due("SIZE of " + text, x.proc(0, 1), size);
  }

  /** WANT of main, whose SIZE is 2 without LOCALS: 2, the most that is pushed, and 3. */
  private static void want(String body, int pushed) {
    GatedPile x = Kit.compiled("var v;var w[3];proc main(){" + body + "}proc f(){}proc g(a){}proc h(a,b,c){}");
    Kit.due("WANT of " + body, x.proc(0, 2), x.proc(0, 1) + pushed + 3);
  }

  private static void wants() {
    Kit.sentence("WANT: SIZE - P, and the most that these have pushed at a time (a CALL takes its arguments and pushes one, AT one and one, ..), and 3");
    want("", 1);
    want("out 1;", 1);
    want("out 1+2;", 2);
    want("out 1+2+3+4;", 2);
    want("out 1+(2+(3+4));", 4);
    want("out 1<2*3;", 3);
    want("out -1;", 1);
    want("out -(-(1));", 1);
    want("v=1+2*3;", 3);
    want("out w[1];", 1);
    want("out 1+w[2];", 2);
    want("w[1]=2;", 2);
    want("w[1]=2+3;", 3);
    want("w[1+2]=3;", 2);
    want("w[1+2*3]=4;", 3);
    want("f();", 1);
    want("out 1+f();", 2);
    want("g(1);", 1);
    want("h(1,2,3);", 3);
    want("h(1,2,3+4);", 4);
    want("h(1+2,2,3);", 3);
    want("out h(1,2,h(3,4,5));", 5);
    want("out h(h(3,4,5),1,2);", 3);
    want("out 1+h(1,2,3);", 4);
    want("out h(1,2,3)+1;", 3);
    want("h(1,2,in);", 3);
    want("raise range;", 1);
    want("return 1+2;out 3;", 2);
    want("if 1+2{out 1;}", 2);
    want("while 1{out 1+(2+3);}", 3);
    want("try{out 1+(2+3);}when range{}", 3);
    want("try{}when range{out 1+(2+(3+4));}", 4);
    Kit.sentence("what is behind RETURN, PASS, RAISE, JUMP stands as by the text: with nothing pushed");
    want("return 1;out 2;return 3;out 4;", 1);
    want("raise range;out 1;raise index;out 2+3;", 2);
    want("if 1{return 1;}else{return 2;}out 1;", 1);
    want("try{raise range;}when range{raise index;}when index{return 1;}out 1+2;", 2);
    want("while 1{return 1;}while 1{raise range;}out 1;", 1);
    // SIZE - P: the arguments stand on the pile already.
    GatedPile x = Kit.compiled("proc f(a,b,c){var d=1;}proc main(){}");
    Kit.due("WANT with parameters", x.proc(0, 2), 3 + 1 + 3);
  }

  /** f is called n times within itself, with the PILE beginning where the GLOBALS end. */
  private static String deep(int globals) {
    StringBuilder text = new StringBuilder("proc f(n){if 0{");
    for (int i = 0; i < 16; i++) text.append("var b").append(i).append("=0;");
    text.append("}if n{f(n-1);}}proc main(){f(in);}");
    int left = globals;
    for (int i = 0; left > 0; i++) {
      text.append("var g").append(i).append("[").append(Math.min(left, 500)).append("];");
      left -= Math.min(left, 500);
    }
    return text.toString();
  }

  private static void full() {
    Kit.sentence("ENTER: CONST r3 (8192 - WANT), LESS r2 r3 r7, .. LI r4 -1, HALT: FULL when 8192 - WANT is below TOP");
    int code = Kit.compiled(deep(0)).count(3);
    // Each f within another has a frame of 18 beside the argument that was pushed; main's 2 and the first argument stand ahead.
    for (int times = 115; times <= 125; times++) {
      int top = 2 + 1 + times * 19;
      int globals = 8192 - (18 + 2 + 3) - top - code;
      for (int more = -1; more <= 1; more++) {
        GatedPile x = Kit.compiled(deep(globals + more));
        Kit.due("WANT", x.proc(0, 2), 18 + 2 + 3);
        x.input(times);
        Kit.due("run with " + more + " words too many", x.run(), more <= 0 ? 0 : -2);
        Kit.due("HALTED", x.look(13), 1);
        Kit.due("r4", x.look(4), more <= 0 ? 0 : -1);
        Kit.due("TOP", x.look(7), more <= 0 ? x.count(3) + x.count(4) : 8192 - 22);
        Kit.due("INPUT that is left", x.count(8), 0);
      }
    }
    Kit.sentence("FULL of main itself");
    StringBuilder deep = new StringBuilder();
    int pushed = 28 * 7 + 8;
    for (int i = 0; i < 28; i++) deep.append("f(1,1,1,1,1,1,1,");
    deep.append("f(1,1,1,1,1,1,1,1)");
    deep.append(Kit.times(")", 28));
    String text = "proc f(a,b,c,d,e,g,h,i){return i;}proc main(){out " + deep + ";}";
    GatedPile x = Kit.compiled(text);
    Kit.due("WANT of many pushed", x.proc(1, 2), 2 + pushed + 3);
    Kit.due("run of many pushed", x.run(), 0);
    Kit.due("what they give", x.output(0), 1);
  }

  // ---- words

  private static void constants() {
    Kit.sentence("CONST r v: LI r v, if v is -256 .. 255, else PLACE r v");
    int[] values = {0, 1, 127, 128, 254, 255, 256, 257, 511, 512, 32766, 32767};
    for (int v : values) {
      GatedPile x = Kit.compiled("proc main(){out " + v + ";}");
      int at = x.order(1, 3);
      Kit.due("words of PUSH " + v, x.order(2, 3) - at, v <= 255 ? 3 : 4);
      Kit.due("first word of PUSH " + v, x.word(at), 6 << 12 | (v <= 255 ? v : v & 255));
      if (v > 255) Kit.due("second word of PUSH " + v, x.word(at + 1), 7 << 12 | v >> 8);
      Kit.due("word behind PUSH " + v, x.word(at + (v <= 255 ? 1 : 2)), 9 << 12 | 7 << 6);
      Kit.due("run of " + v, x.run(), 0);
      Kit.due("out " + v, x.output(0), v);
    }
    for (int n = 253; n <= 258; n++) {
      GatedPile x = Kit.compiled("var w[" + n + "];proc main(){out w[1];w[2]=3;}");
      int at = x.order(2, 3);
      Kit.due("words of AT of " + n, x.order(3, 3) - at, 2 + (n <= 255 ? 1 : 2) + 3 + 3 + 3 + 3);
      Kit.due("number of " + n, x.word(at + 2), 6 << 12 | 1 << 9 | n & 255);
      if (n > 255) Kit.due("second word of number " + n, x.word(at + 3), 7 << 12 | 1 << 9 | 1);
    }
    Kit.sentence("PLACE r v: LI r (v's lowest eight bits, 0 .. 255), HI r (its highest eight)");
    GatedPile x = Kit.compiled("proc main(){out 1;}");
    int at = x.order(2, 3);
    Kit.due("65280's lowest bits", x.word(at + 2), 6 << 12 | 1 << 9);
    Kit.due("65280's highest bits", x.word(at + 3), 7 << 12 | 1 << 9 | 255);
    // PLACE has two words also where one would do: the places of a small CODE.
    Kit.due("the PILE's lowest bits", x.word(1), 6 << 12 | 7 << 9 | x.count(3) & 255);
    Kit.due("the PILE's highest bits", x.word(2), 7 << 12 | 7 << 9 | x.count(3) >> 8);
    Kit.due("main's lowest bits", x.word(4), 6 << 12 | 5 << 9 | 82);
    Kit.due("main's highest bits", x.word(5), 7 << 12 | 5 << 9);
  }

  /** Statements of so many words in all, none with a GO of its own; n is not below 56. */
  private static String filler(int n) {
    int nines = n % 8;
    return Kit.times("out 256;", nines) + Kit.times("out 1;", (n - 9 * nines) / 8);
  }

  private static boolean isLong(GatedPile x, int at, int to) {
    return x.word(at) == (6 << 12 | 5 << 9 | to & 255) && x.word(at + 1) == (7 << 12 | 5 << 9 | to >> 8)
        && x.word(at + 2) == (13 << 12 | 5 << 9 | 5 << 6);
  }

  private static void reachesForward() {
    Kit.sentence("GO L: JUMP L if that reaches, else PLACE r5 L, CALL r5 r5");
    for (int words = 2044; words <= 2051; words++) {
      GatedPile x = Kit.compiled("proc main(){if in{" + filler(words) + "}out 5;}");
      int at = x.order(2, 3) + 4;
      int to = x.order(x.order(2, 2), 3);
      boolean reaches = words <= 2047;
      Kit.due("words of the BLOCK", to - x.order(3, 3), words);
      Kit.due("words of UNLESS over " + words, x.order(3, 3) - x.order(2, 3), reaches ? 5 : 7);
      Kit.due("SKIP of it", x.word(at - 1), 14 << 12 | (reaches ? 1 : 3));
      if (reaches) Kit.due("JUMP over " + words, x.word(at), 14 << 12 | words);
      else Kit.due("longer one over " + words, isLong(x, at, to), true);
      x.input(0);
      Kit.due("run past the BLOCK", x.run(), 0);
      Kit.due("past it", x.count(9), 1);
      Kit.due("past it", x.output(0), 5);
      x.clear();
      x.input(1);
      Kit.due("run through the BLOCK", x.run(), 0);
      Kit.due("through it", x.count(9) > 200, true);
    }
  }

  private static void reachesBack() {
    Kit.sentence("GO L: JUMP L if that reaches: back");
    // IN has 10 words, UNLESS 5, then the BLOCK and JUMP.
    boolean last = false;
    boolean first2049 = false;
    for (int words = 2026; words <= 2050; words++) {
      GatedPile x = Kit.compiled("proc main(){while in{" + filler(words) + "}out 5;}");
      int first = x.order(1, 3);
      int unless = x.order(2, 3);
      int back = -1;
      for (int i = 3; i < x.count(2); i++) if (x.order(i, 0) == 15) back = i;
      int at = x.order(back, 3);
      int size = x.order(back + 1, 3) - at;
      int step = first - at - 1;
      last |= step == -2048;
      first2049 |= step == -2049;
      Kit.due("words of JUMP with step " + step, size, step >= -2048 ? 1 : 3);
      if (size == 1) Kit.due("JUMP back by " + step, x.word(at), 14 << 12 | step & 4095);
      else Kit.due("longer one back by " + step, isLong(x, at, first), true);
      int forward = words + size;
      Kit.due("words of UNLESS over " + forward, x.order(3, 3) - unless, forward <= 2047 ? 5 : 7);
      x.input(1);
      x.input(0);
      Kit.due("run", x.run(), 0);
      Kit.due("the last number", x.output(x.count(9) - 1), 5);
      Kit.due("INPUT that is left", x.count(8), 0);
    }
    Kit.due("the last step that reaches, and the first beyond, were seen", last && first2049, true);
  }

  private static void reachesAgain() {
    Kit.sentence("those that don't reach become the longer one; again, until all reach");
    // IN's 12 words, and the BLOCK: the JUMP back gets longer first, and only then UNLESS does not reach any more.
    int seen = 0;
    for (int words = 2036; words <= 2050; words++) {
      GatedPile x = Kit.compiled("proc main(){while in{" + filler(words) + "}}");
      boolean unlessLong = x.order(3, 3) - x.order(2, 3) == 7;
      if (unlessLong && words + 1 <= 2047) seen++;
    }
    Kit.due("UNLESS that is longer by the second turn alone", seen, 2);
    // A GO stays the longer one, and those that reach stay short.
    GatedPile x = Kit.compiled("proc main(){try{" + "out in;" + filler(2100) + "out in;}when empty{out 9;}}");
    Kit.due("words of the first IN", x.order(2, 3) - x.order(1, 3), 12);
    int last = 0;
    for (int i = 0; i < x.count(2); i++) if (x.order(i, 0) == 19) last = i;
    Kit.due("words of the last IN", x.order(last + 1, 3) - x.order(last, 3), 10);
    Kit.due("run of the first", x.run(), 0);
    Kit.due("its condition", x.output(0), 9);
    x.input(4);
    Kit.due("run of the last", x.run(), 0);
    Kit.due("its condition", x.output(x.count(9) - 1), 9);
  }

  private static void leaves() {
    Kit.sentence("LEAVE: for each condition c behind raises: LI r0 c, XOR r0 r0 r4, JZ r0 (to BACK); then LI r4 5, BACK");
    for (int n = 0; n <= 30; n++) {
      StringBuilder raises = new StringBuilder();
      String[] five = {"range", "index", "divide", "empty", "error"};
      StringBuilder conds = new StringBuilder();
      for (int i = 5; i < 30; i++) conds.append("cond c").append(i + 1).append(";");
      for (int i = 0; i < n; i++) raises.append(i > 0 ? "," : " raises ").append(i < 5 ? five[i] : "c" + (i + 1));
      String last = n == 0 ? "range" : n <= 5 ? five[n - 1] : "c" + n;
      GatedPile x = Kit.compiled(conds + "proc main()" + raises + "{raise " + last + ";}");
      int at = x.order(x.count(2) - 1, 3);
      Kit.due("words of LEAVE with " + n, x.count(3) - at, 3 * n + 6);
      for (int i = 0; i < n; i++) {
        Kit.due("LI of " + i + " of " + n, x.word(at + 3 * i), 6 << 12 | i + 1);
        Kit.due("XOR of " + i + " of " + n, x.word(at + 3 * i + 1), 3 << 12 | 4 << 3);
        Kit.due("JZ of " + i + " of " + n, x.word(at + 3 * i + 2), 11 << 12 | 3 * (n - i) - 2);
      }
      Kit.due("LI r4 5", x.word(at + 3 * n), 6 << 12 | 4 << 9 | 5);
      Kit.due("run with " + n, x.run(), n == 0 ? 5 : n);
    }
  }

  private static void globals() {
    Kit.sentence("Behind it the GLOBALS (a word, or as many as the array's number, for each var), then the PILE");
    GatedPile x = Kit.compiled("var a;var b[3];var c;var d[500];var e;proc main(){a=1;b[0]=2;b[2]=3;c=4;d[0]=5;d[499]=6;e=7;}");
    Kit.due("GLOBALS", x.count(4), 506);
    Kit.due("run", x.run(), 0);
    int first = x.count(3);
    int[] places = {0, 1, 2, 3, 4, 5, 6, 503, 504, 505};
    int[] values = {1, 2, 0, 3, 4, 5, 0, 0, 6, 7};
    for (int i = 0; i < places.length; i++) Kit.due("word " + places[i] + " of GLOBALS", x.memory(first + places[i]), values[i]);
    Kit.due("the last word of CODE", x.memory(first - 1), (short) x.word(first - 1));
    Kit.due("TOP in the end: the PILE", x.look(7), first + 506);
    Kit.due("without vars", Kit.compiled("proc main(){}").count(4), 0);
    Kit.sentence("CODE, from 0 on: LI r4 0, PLACE r7 (the PILE), ADDI r6 r7 0, PLACE r5 (main's ENTER), CALL r5 r5, HALT; MULTIPLY; DIVIDE; the orders' words");
    Kit.due("the first order's place", x.order(0, 3), 8 + 30 + 44);
    int main = Kit.compiled("proc f(){}proc main(){}").order(4, 3);
    Kit.due("main's place", Kit.compiled("proc f(){}proc main(){}").word(4), 6 << 12 | 5 << 9 | main & 255);
    Kit.due("HALT", x.word(7), 15 << 12);
  }

  public static void main(String[] args) {
    handlers();
    blocks();
    locals();
    wants();
    full();
    constants();
    reachesForward();
    reachesBack();
    reachesAgain();
    leaves();
    globals();
    Kit.finish();
  }
}
