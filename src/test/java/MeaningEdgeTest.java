/** Part III: each sentence of what a text means, at its edges. */
final class MeaningEdgeTest {
  private static final int[] NO = {};

  /** What run() answers, and the OUTPUT. */
  private static void means(String text, int[] input, int answer, int... output) {
    GatedPile x = Kit.compiled(text);
    for (int v : input) Kit.due("input(" + v + ")", x.input(v), true);
    Kit.due("run of " + text, x.run(), answer);
    Kit.due("OUTPUT of " + text, x.count(9), output.length);
    for (int i = 0; i < output.length; i++) Kit.due("output(" + i + ") of " + text, x.output(i), output[i]);
  }

  private static void beginning() {
    Kit.sentence("It begins with main(), all vars 0");
    means("proc f(){out 1;}proc main(){out 2;}proc g(){out 3;}", NO, 0, 2);
    GatedPile x = Kit.compiled("var v;var w[3];proc main(){out v;out w[0];out w[2];v=5;w[0]=6;w[2]=7;out v+w[0]+w[2];}");
    for (int turn = 0; turn < 2; turn++) {
      Kit.due("run", x.run(), 0);
      int[] want = {0, 0, 0, 18};
      for (int i = 0; i < 4; i++) Kit.due("output(" + i + ") of run " + turn, x.output(i), want[i]);
    }
    // Another text's words that stood there are gone.
    Kit.feed(x, "var w[500];proc main(){var i=0;while i<130{if w[i]{out 1;}i=i+1;}out 2;}");
    Kit.due("compile", x.compile() > 82, true);
    x.reset();
    for (int i = 0; i < 20; i++) x.clock(5000);
    Kit.due("HALTED", x.look(13), 1);
    Kit.due("OUTPUT", x.count(9), 1);
    Kit.due("no var that is not 0", x.output(0), 2);
  }

  private static void fromTheLeft() {
    Kit.sentence("Parts of an E are worked out from the left, then the sign");
    String head = "proc f(x){out x;return x;}var w[9];";
    for (String sign : new String[] {"+", "-", "*", "/", "%", "<", ">", "<=", ">=", "==", "!="}) {
      GatedPile x = Kit.compiled(head + "proc main(){out f(1)" + sign + "f(2);}");
      Kit.due("run", x.run(), 0);
      Kit.due("first of " + sign, x.output(0), 1);
      Kit.due("then of " + sign, x.output(1), 2);
    }
    means(head + "proc g(a,b,c){}proc main(){g(f(1),f(2),f(3));}", NO, 0, 1, 2, 3);
    means(head + "proc main(){out f(1)+f(2)*f(3);}", NO, 0, 1, 2, 3, 7);
    means(head + "proc main(){out (f(1)+f(2))*f(3)-f(4)/f(2);}", NO, 0, 1, 2, 3, 4, 2, 7);
    means(head + "proc main(){w[f(1)]=f(2);out w[f(1)];}", NO, 0, 1, 2, 1, 2);
    means("proc main(){out in-in*in;}", new int[] {10, 2, 3}, 0, 4);
    // A condition of the left part comes ahead of one of the right part, and both ahead of the sign's own.
    means("var w[2];proc main() raises index,divide,empty{out w[2]+1/0;}", NO, 2);
    means("var w[2];proc main() raises index,divide,empty{out 1/0+w[2];}", NO, 3);
    means("proc main() raises divide,empty{out in/0;}", NO, 4);
    means("proc main() raises divide,empty{out 0/in;}", NO, 4);
    means("var w[2];proc main() raises index,divide{out w[1/0];}", NO, 3);
    gives("10-4-3", 3);
    gives("100/7/2", 7);
    gives("100%7*3", 6);
    gives("2+3*4-5%3", 12);
    gives("1+2<3*4", 1);
    gives("(1<2)+(3<2)", 1);
    gives("-2*-3", 6);
    gives("-(2+3)", -5);
    gives("7--7", 14);
  }

  private static void gives(String e, int value) {
    means("proc main(){out " + e + ";}", NO, 0, value);
  }

  // ---- results, for all pairs of numbers at the edges

  private static final int[] EDGES = {-32768, -32767, -32766, -16385, -16384, -16383, -257, -256, -255, -182, -181, -128, -3, -2,
    -1, 0, 1, 2, 3, 127, 128, 181, 182, 255, 256, 257, 16383, 16384, 16385, 32766, 32767};
  private static final String[] SIGNS = {"+", "-", "*", "/", "%", "<", ">", "<=", ">=", "==", "!="};

  /** The result, or 100000 and the condition. */
  private static int result(int sign, int a, int b) {
    int v;
    switch (sign) {
      case 0: v = a + b; break;
      case 1: v = a - b; break;
      case 2: v = a * b; break;
      case 3: if (b == 0) return 100003; v = a / b; break;
      case 4: if (b == 0) return 100003; return a % b;
      case 5: return a < b ? 1 : 0;
      case 6: return a > b ? 1 : 0;
      case 7: return a <= b ? 1 : 0;
      case 8: return a >= b ? 1 : 0;
      case 9: return a == b ? 1 : 0;
      default: return a != b ? 1 : 0;
    }
    return v < -32768 || v > 32767 ? 100001 : v;
  }

  private static void pairs() {
    Kit.sentence("a result that is no number ends in the condition range (1): of + - *; by 0: divide (3); C gives 1 or 0");
    for (int sign = 0; sign < SIGNS.length; sign++) {
      GatedPile x = null;
      int turn = 0;
      for (int a : EDGES) {
        for (int b : EDGES) {
          if (turn++ % 70 == 0) x = Kit.compiled("proc main() raises range,divide{var a=in;out a" + SIGNS[sign] + "in;}");
          x.clear();
          x.input(a);
          x.input(b);
          int want = result(sign, a, b);
          String what = a + " " + SIGNS[sign] + " " + b;
          Kit.due("run of " + what, x.run(), want >= 100000 ? want - 100000 : 0);
          Kit.due("OUTPUT of " + what, x.count(9), want >= 100000 ? 0 : 1);
          if (want < 100000) Kit.due(what, x.output(0), want);
        }
      }
    }
    Kit.sentence("a result that is no number ends in the condition range (1): .. of - ahead");
    GatedPile x = Kit.compiled("proc main() raises range{out -in;}");
    for (int a : EDGES) {
      x.clear();
      x.input(a);
      Kit.due("run of - " + a, x.run(), a == -32768 ? 1 : 0);
      Kit.due("OUTPUT of - " + a, x.count(9), a == -32768 ? 0 : 1);
      if (a != -32768) Kit.due("- " + a, x.output(0), -a);
    }
    Kit.sentence("(-32768 / -1 is range, % 0)");
    means("proc main() raises range,divide{out (-32767-1)/-1;}", NO, 1);
    means("proc main() raises range,divide{out (-32767-1)%-1;}", NO, 0, 0);
    means("proc main() raises range,divide{out -32767/-1;}", NO, 0, 32767);
  }

  private static void indexes() {
    Kit.sentence("NAME [ E ]: index (2), if E is not from 0 to below the array's number");
    for (int n : new int[] {1, 2, 3, 255, 256, 257, 499, 500}) {
      GatedPile x = Kit.compiled("var b;var w[" + n + "];var d;proc main() raises index{var i=in;try{w[i]=7;}when index{out 1;}out w[i];}");
      for (int i : new int[] {-32768, -500, -1, 0, 1, n - 1, n, n + 1, 500, 501, 32767}) {
        boolean fine = i >= 0 && i < n;
        x.clear();
        x.input(i);
        Kit.due("run with w[" + i + "] of " + n, x.run(), fine ? 0 : 2);
        Kit.due("what was sent with w[" + i + "] of " + n, x.output(0), fine ? 7 : 1);
        Kit.due("how much was sent with w[" + i + "] of " + n, x.count(9), 1);
        int first = x.count(3);
        Kit.due("the var ahead of it", x.memory(first), 0);
        Kit.due("the var behind it", x.memory(first + 1 + n), 0);
        if (fine) Kit.due("its place", x.memory(first + 1 + i), 7);
      }
    }
    Kit.sentence("of NAME [ E ] = E that is looked at when both are worked out");
    String head = "var w[2];proc f(){out 4;return 9;}";
    means(head + "proc main() raises index{w[2]=f();}", NO, 2, 4);
    means(head + "proc main() raises index{w[1]=f();out w[1];}", NO, 0, 4, 9);
    means(head + "proc main() raises index{w[-1]=f();}", NO, 2, 4);
    means(head + "proc main() raises index,divide{w[2]=1/0;}", NO, 3);
    means(head + "proc main() raises index,empty{w[2]=in;}", NO, 4);
    means(head + "proc main() raises index,divide{w[1/0]=in;}", NO, 3);
    means(head + "proc main() raises index{w[2]=w[3];}", NO, 2);
  }

  private static void input() {
    Kit.sentence("in is the next number of the INPUT: empty (4), if there is none");
    String sum = "proc main() raises empty{out in;out in;}";
    means(sum, NO, 4);
    means(sum, new int[] {5}, 4, 5);
    means(sum, new int[] {5, 6}, 0, 5, 6);
    means(sum, new int[] {0, 0, 7}, 0, 0, 0);
    means(sum, new int[] {-32768, 32767}, 0, -32768, 32767);
    means("proc main(){try{while 1{out in;}}when empty{out 9;}}", new int[] {1, 0, 2}, 0, 1, 0, 2, 9);
    GatedPile x = Kit.compiled(sum);
    x.input(5);
    x.input(6);
    x.input(7);
    x.run();
    Kit.due("one is left", x.count(8), 1);
    x.run();
    Kit.due("a run has all of them to come", x.output(0), 5);
  }

  private static void calls() {
    Kit.sentence("it gives what return tells, 0 at the proc's end");
    means("proc f(x){if x{return x;}}proc main(){out f(7);out f(0);out f(-1);}", NO, 0, 7, 0, -1);
    means("proc f(){return 3;return 4;}proc main(){out f();}", NO, 0, 3);
    means("proc f(){while 1{if 1{return 5;}}}proc main(){out f();}", NO, 0, 5);
    means("proc f(){try{return 5;}when range{return 6;}return 7;}proc main(){out f();}", NO, 0, 5);
    means("proc f(){}proc main(){out f();f();}", NO, 0, 0);
    means("proc main(){out 1;return 9;out 2;}", NO, 0, 1);
    Kit.sentence("then the proc with LOCALS of its own");
    means("proc f(n){var k=n;if n>0{f(n-1);}out k;}proc main(){f(3);}", NO, 0, 0, 1, 2, 3);
    means("proc f(x){x=9;}proc main(){var x=1;f(x);out x;}", NO, 0, 1);
    means("proc f(n){if n<2{return 1;}return n*f(n-1);}proc main(){out f(7);}", NO, 0, 5040);
    means("proc f(a,b,c,d,e,g,h,i){return a-b*c+d-e*g+h-i;}proc main(){out f(1,2,3,4,5,6,7,8);}", NO, 0, -32);
    Kit.sentence("if and while want any number but 0");
    for (int v : new int[] {-32768, -1, 0, 1, 256, 32767}) {
      means("proc main(){var v=in;if v{out 1;}else{out 2;}if v{out 3;}while v{out 4;v=0;}}", new int[] {v}, 0,
          v != 0 ? new int[] {1, 3, 4} : new int[] {2});
    }
  }

  private static void innermost() {
    Kit.sentence("up to the innermost try in whose first BLOCK that is (in the same proc), that has it in a when");
    String c = "cond c,d;";
    means(c + "proc main(){try{try{raise c;}when c{out 1;}out 2;}when c{out 3;}out 4;}", NO, 0, 1, 2, 4);
    means(c + "proc main(){try{try{raise c;}when d{out 1;}out 2;}when c{out 3;}out 4;}", NO, 0, 3, 4);
    means(c + "proc main(){try{try{raise c;out 9;}when d{out 1;}when c{out 5;}out 2;}when c{out 3;}out 4;}", NO, 0, 5, 2, 4);
    means(c + "proc main(){try{try{raise c;}when c{raise c;}when d{out 1;}}when c{out 3;}out 4;}", NO, 0, 3, 4);
    means(c + "proc main() raises c{try{}when c{out 1;}raise c;}", NO, 6);
    means(c + "proc main() raises c{try{raise c;}when c{out 1;raise c;}}", NO, 6, 1);
    means(c + "proc main() raises c,d{try{raise d;}when c{}}", NO, 7);
    means(c + "proc f() raises c{raise c;}proc main(){try{f();out 1;}when c{out 2;}out 3;}", NO, 0, 2, 3);
    means(c + "proc f() raises c{try{raise c;}when d{out 9;}}proc main(){try{f();}when d{out 1;}when c{out 2;}}", NO, 0, 2);
    means(c + "proc main(){if 1{try{while 1{if 1{raise c;}}}when c{out 1;}out 2;}}", NO, 0, 1, 2);
    Kit.sentence("If there is none, the proc ends with it, if raises tells it, else with error (5); then the call ends in that");
    means(c + "proc f() raises d{raise c;}proc main(){try{f();}when c{out 1;}when error{out 2;}}", NO, 0, 2);
    means(c + "proc f() raises d,c{raise c;}proc main(){try{f();}when error{out 2;}when c{out 1;}}", NO, 0, 1);
    means(c + "proc f(){raise c;}proc g() raises c{f();}proc main() raises c,error{g();}", NO, 5);
    means(c + "proc f() raises c{raise c;}proc g(){f();}proc main() raises c{g();}", NO, 5);
    means(c + "proc f() raises c{raise c;}proc g() raises c{f();}proc main() raises c{g();}", NO, 6);
    means(c + "proc f() raises c{raise c;}proc g() raises c{out 1+f();}proc main() raises d{out 2+g();}", NO, 5);
    means("proc main(){raise error;}", NO, 5);
    means("proc main() raises error{raise error;}", NO, 5);
    means("proc f(){raise error;}proc main(){try{f();}when error{out 1;}}", NO, 0, 1);
    Kit.sentence("what a condition has ended is no more on the pile");
    means(c + "proc f() raises c{raise c;}proc main(){var i=0;while i<9{try{out 1+(2+(3+f()));}when c{i=i+1;}}out i;}", NO, 0, 9);
    GatedPile x = Kit.compiled(c + "proc main(){try{out 1+(2+(3+in));}when empty{}}");
    x.run();
    int top = x.look(7);
    x.input(1);
    x.run();
    Kit.due("TOP in the end", x.look(7), top);
    Kit.due("TOP is the PILE", top, x.count(3) + x.count(4));
  }

  private static void numbers() {
    Kit.sentence("The condition with which main ends is that of the run, 0 without one");
    String[] five = {"range", "index", "divide", "empty", "error"};
    for (int i = 0; i < 5; i++) {
      means("proc main() raises " + five[i] + "{out 1;raise " + five[i] + ";}", NO, i + 1, 1);
      means("proc main(){try{raise " + five[i] + ";}when " + five[i] + "{out 2;}}", NO, 0, 2);
    }
    means("proc main() raises range{}", NO, 0);
    Kit.sentence("Other conditions are numbered from 6 on, as they stand in the text");
    String text = "cond z;proc f(){}cond y,x;var v;cond a;proc main() raises x,a,z,y{raise @;}cond b;";
    String[] order = {"z", "y", "x", "a", "b"};
    for (int i = 0; i < 5; i++) means(text.replace("@", order[i]), NO, order[i].equals("b") ? 5 : 6 + i);
    means(text.replace("x,a,z,y", "b").replace("@", "b"), NO, 10);
  }

  public static void main(String[] args) {
    beginning();
    fromTheLeft();
    pairs();
    indexes();
    input();
    calls();
    innermost();
    numbers();
    Kit.finish();
  }
}
