import java.util.Random;

/** Promises 11, 12, 15 and 19: what programs mean, by hand and beside the Model's meaning. */
final class RunTest {
  private static void means(String text, int[] input, int answer, int... output) {
    GatedPile x = Kit.compiled(text);
    for (int v : input) Kit.due("input(" + v + ")", x.input(v), true);
    Kit.due("run of " + text, x.run(), answer);
    Kit.due("OUTPUT of " + text, x.count(9), output.length);
    for (int i = 0; i < output.length; i++) Kit.due("output(" + i + ") of " + text, x.output(i), output[i]);
    Kit.due("behind the OUTPUT of " + text, x.output(output.length), 0);
  }

  private static final int[] NO = {};

  /** What out gives of an E, or the condition that it ends in. */
  private static void gives(String e, int value) {
    means("var a[3]; proc main(){out " + e + ";}", NO, 0, value);
  }

  private static void ends(String e, int condition) {
    means("var a[3]; proc main() raises range,index,divide,empty{out " + e + ";}", NO, condition);
    means("var a[3]; proc main(){out " + e + ";}", NO, 5);
    String[] names = {"", "range", "index", "divide", "empty"};
    means("var a[3]; proc main(){try{out " + e + ";}when " + names[condition] + "{out 8;} out 9;}", NO, 0, 8, 9);
  }

  private static void arithmetic() {
    String low = "(-32767-1)";
    gives("32766+1", 32767);
    ends("32767+1", 1);
    gives("-32767+(-1)", -32768);
    ends(low + "+(-1)", 1);
    gives("-32767-1", -32768);
    ends(low + "-1", 1);
    ends("0-" + low, 1);
    gives("-1-" + low, 32767);
    gives("-32767", -32767);
    ends("-" + low, 1);
    gives("--5", 5);
    gives("181*181", 32761);
    ends("182*182", 1);
    gives("-256*128", -32768);
    gives("256*-128", -32768);
    gives("128*(-256)", -32768);
    ends("256*128", 1);
    gives(low + "*1", -32768);
    gives("1*" + low, -32768);
    ends(low + "*-1", 1);
    ends("-1*" + low, 1);
    gives(low + "*0", 0);
    gives("0*" + low, 0);
    ends(low + "*" + low, 1);
    ends("2*" + low, 1);
    ends("32767*32767", 1);
    gives("32767*-1", -32767);
    gives("7/2", 3);
    gives("-7/2", -3);
    gives("7/-2", -3);
    gives("-7/-2", 3);
    gives("7%2", 1);
    gives("-7%2", -1);
    gives("7%-2", 1);
    gives("-7%-2", -1);
    ends("7/0", 3);
    ends("7%0", 3);
    ends("0/0", 3);
    ends(low + "/-1", 1);
    gives(low + "%-1", 0);
    gives(low + "/1", -32768);
    gives(low + "/" + low, 1);
    gives("32767/" + low, 0);
    gives("32767%" + low, 32767);
    gives(low + "/32767", -1);
    gives(low + "%32767", -1);
    gives(low + "/2", -16384);
    gives("10-4-3", 3);
    gives("100/7/2", 7);
    gives("2+3*4", 14);
    gives("1+2<3+1", 1);
    gives("2<1", 0);
    gives(low + "<32767", 1);
    gives("32767>" + low, 1);
    gives("2<=2", 1);
    gives("3<=2", 0);
    gives("2>=3", 0);
    gives("3>=3", 1);
    gives("3==3", 1);
    gives("3==4", 0);
    gives("3!=3", 0);
    gives("3!=4", 1);
    gives("a[0]+a[2]", 0);
    ends("a[3]", 2);
    ends("a[-1]", 2);
    ends("a[32767]", 2);
    ends("a[" + low + "]", 2);
    ends("in", 4);
  }

  private static void products() {
    Random random = new Random(3);
    int[] edges = {0, 1, -1, 2, -2, 181, 182, -181, 32767, -32767, -32768, 255, 256, 128, -128, 16384, -16384};
    GatedPile x = null;
    for (int turn = 0; turn < 1500; turn++) {
      if (turn % 100 == 0) {
        x = Kit.compiled("proc main() raises range,divide{var a=in; var b=in; try{out a*b;}when range{out 0;out 1;}"
            + "try{out a/b;}when range{out 0;out 1;} out a%b;}");
      }
      int a = turn < 289 ? edges[turn / 17] : (short) (random.nextInt() >> 16 + random.nextInt(16));
      int b = turn < 289 ? edges[turn % 17] : (short) (random.nextInt() >> 16 + random.nextInt(16));
      x.clear();
      x.input(a);
      x.input(b);
      Kit.due("run of " + a + " and " + b, x.run(), b == 0 ? 3 : 0);
      int i = 0;
      i = sent(x, i, a * b, a + " * " + b);
      if (b == 0) continue;
      i = sent(x, i, a / b, a + " / " + b);
      i = sent(x, i, a % b, a + " % " + b);
      Kit.due("all that was sent", x.count(9), i);
    }
  }

  private static int sent(GatedPile x, int i, int v, String what) {
    if (v >= -32768 && v <= 32767) {
      Kit.due(what, x.output(i), v);
      return i + 1;
    }
    Kit.due(what, x.output(i), 0);
    Kit.due(what, x.output(i + 1), 1);
    return i + 2;
  }

  private static void statements() {
    means("proc main(){out in; out in; out in;}", new int[] {5, -7, 65535}, 0, 5, -7, -1);
    means("proc main(){try{out in; out in;}when empty{out 3;}}", new int[] {32768}, 0, -32768, 3);
    means("var a[2]; proc f(){out 4; return 7;} proc main(){try{a[9]=f();}when index{out 5;}}", NO, 0, 4, 5);
    means("var a[2]; proc main(){a[1]=3; a[0]=a[1]*2; out a[0]; out a[1];}", NO, 0, 6, 3);
    means("proc f(x){if x{return 3;}} proc main(){out f(1); out f(0); f(5);}", NO, 0, 3, 0);
    means("proc f(a,b,c){return a*100+b*10+c;} proc main(){out f(1,2,3); out f(f(0,0,1),f(0,0,2),3);}", NO, 0, 123, 123);
    means("proc f(n){if n<2{return n;} return f(n-1)+f(n-2);} proc main(){out f(7);}", NO, 0, 13);
    means("cond a,b; proc main() raises b{raise b;}", NO, 7);
    means("cond a,b; proc main() raises b{raise a;}", NO, 5);
    means("cond a,b; proc f() raises a{raise a;} proc main(){try{f();}when b{out 1;}when a{out 2;}}", NO, 0, 2);
    means("cond a; proc f(){raise a;} proc main(){try{f();}when a{out 1;}when error{out 2;}}", NO, 0, 2);
    means("cond a,b; proc main(){try{try{raise a;}when a{raise b;}when b{out 1;}}when b{out 2;}}", NO, 0, 2);
    means("cond a; proc main() raises a{try{raise a;}when range{out 1;}}", NO, 6);
    means("cond a; proc main(){var i=0; while i<3{try{if i==1{raise a;} out i;}when a{out 10;} i=i+1;}}", NO, 0, 0, 10, 2);
    means("cond a; proc g() raises a{raise a;} proc main(){var x=4; try{out 1+(2+(3+g()));}when a{out x;}}", NO, 0, 4);
    means("proc main(){if -1{out 1;} if 0{out 2;}else{out 3;} while 0{out 4;}}", NO, 0, 1, 3);
    means("var main2; proc main(){out main2; main2=6; out main2;}", NO, 0, 0, 6);
    means("proc main() raises error{raise error;}", NO, 5);
    means("proc main(){while 1{}}", NO, -3);
    GatedPile x = Kit.compiled("proc main(){out 1;}");
    Kit.due("run", x.run(), 0);
    Kit.due("its variables are 0 anew", x.run(), 0);
    Kit.due("without CODE", new GatedPile().run(), -1);
  }

  /** A pile of few places, and frames of many: as many calls as WANT leaves room for. */
  private static void full() {
    StringBuilder text = new StringBuilder("var n;");
    for (int i = 0; i < 11; i++) text.append("var a").append(i).append("[500];");
    text.append("proc f(x){n=n+1; if 0{");
    for (int i = 0; i < 16; i++) text.append("var b").append(i).append("=0;");
    text.append("} return 1+f(x+1);} proc main(){f(1);}");
    GatedPile x = Kit.compiled(text.toString());
    Kit.due("SIZE", x.proc(0, 1), 19);
    Kit.due("WANT", x.proc(0, 2), 18 + 3 + 3);
    int pile = x.count(3) + x.count(4);
    int top = pile + 2 + 1;
    int frames = 0;
    for (; top <= 8192 - 24; top += 18 + 2) frames++;
    Kit.due("run", x.run(), -2);
    Kit.due("frames", x.memory(x.count(3)), frames);
    Kit.due("TOP", x.look(7), top);
    Kit.due("r4", x.look(4), -1);
    Kit.due("HALTED", x.look(13), 1);
  }

  private static String lasting(int turns, int outs, int keeps) {
    return "var v;proc main(){var i=" + turns + ";while i{i=i-1;}" + Kit.times("out 1;", outs) + Kit.times("v=1;", keeps) + "}";
  }

  private static int clocks(String text) {
    GatedPile x = Kit.compiled(text);
    x.reset();
    int done = 0;
    for (int i = 0; i < 10; i++) done += x.clock(5000);
    return done;
  }

  /** A run that is HALTED by its 20000th clock has ended, one that needs another has not. */
  private static void justInTime() {
    int base = clocks(lasting(256, 0, 0));
    int turn = clocks(lasting(257, 0, 0)) - base;
    int out = clocks(lasting(256, 1, 0)) - base;
    int keep = clocks(lasting(256, 0, 1)) - base;
    for (int wanted = 20000; wanted <= 20001; wanted++) {
      String text = null;
      for (int turns = 256; turns < 512; turns++) {
        for (int outs = 0; outs < 40; outs++) {
          int left = wanted - base - (turns - 256) * turn - outs * out;
          if (left >= 0 && left % keep == 0 && left / keep < 60) text = lasting(turns, outs, left / keep);
        }
      }
      GatedPile x = Kit.compiled(text);
      Kit.due("run of " + wanted + " clocks", x.run(), wanted == 20000 ? 0 : -3);
      Kit.due("its clocks", x.count(10), 20000);
      Kit.due("HALTED", x.look(13), wanted == 20000 ? 1 : 0);
      Kit.due("a clock more", x.clock(5), wanted - 20000);
      Kit.due("HALTED then", x.look(13), 1);
    }
  }

  private static void inputs() {
    GatedPile x = Kit.compiled("proc main(){var s=0; try{while 1{s=s+in;}}when empty{out s;}}");
    for (int i = 0; i < 200; i++) Kit.due("input " + i, x.input(i % 2), true);
    Kit.due("the 201st", x.input(1), false);
    Kit.due("count(8)", x.count(8), 200);
    Kit.due("run", x.run(), 0);
    Kit.due("their sum", x.output(0), 100);
    Kit.due("count(8) when all are taken", x.count(8), 0);
    Kit.due("those that were taken count", x.input(1), false);
    Kit.due("run with them anew", x.run(), 0);
    Kit.due("their sum anew", x.output(0), 100);
    x.clear();
    Kit.due("count(8) behind clear", x.count(8), 0);
    Kit.due("OUTPUT stays", x.output(0), 100);
    Kit.due("input behind clear", x.input(0x12345), true);
    Kit.due("count(8) of one", x.count(8), 1);
    Kit.due("run of one", x.run(), 0);
    Kit.due("its lowest bits", x.output(0), 0x2345);
  }

  private static void outputs() {
    GatedPile x = Kit.compiled("proc main(){var i=1; while i<=600{out i; i=i+1;}}");
    x.reset();
    for (int i = 0; i < 20; i++) x.clock(5000);
    Kit.due("it is halted", x.look(13), 1);
    Kit.due("count(9)", x.count(9), 600);
    Kit.due("output(0)", x.output(0), 1);
    Kit.due("output(499)", x.output(499), 500);
    for (int i : new int[] {500, 599, 600, -1, Integer.MIN_VALUE, Integer.MAX_VALUE}) Kit.due("output(" + i + ")", x.output(i), 0);
  }

  private static final int[] answers = new int[50];
  private static int compared = 0;

  private static void compare(long seed) {
    compared++;
    Model m = new Model(seed, 20 + (int) (seed % 6) * 25, seed % 3 == 0);
    GatedPile x = Kit.compiled(m, seed);
    if (x == null) return;
    Random random = new Random(seed);
    int[] input = new int[random.nextInt(12)];
    for (int i = 0; i < input.length; i++) {
      input[i] = random.nextInt(3) == 0 ? (short) random.nextInt() : random.nextInt(12) - 3;
      x.input(input[i]);
    }
    int want = m.meaning(input, x.count(3) + x.count(4));
    int got = x.run();
    if (got == -3) {
      Kit.due("clocks of " + seed, x.count(10), 20000);
      for (int i = 0; i < 60; i++) x.clock(5000);
      if (x.look(13) == 1) got = x.look(4) == -1 ? -2 : x.look(4);
    } else {
      Kit.due("clocks of " + seed, x.count(10) <= 20000, true);
    }
    answers[3 + got]++;
    if (got != -3) {
      Kit.due("run of " + seed, got, want);
      Kit.due("OUTPUT of " + seed, x.count(9), m.output.size());
      Kit.due("INPUT of " + seed, x.count(8), input.length - m.takenInputs);
    }
    int many = Math.min(x.count(9), Math.min(500, m.output.size()));
    for (int i = 0; i < many; i++) Kit.due("output(" + i + ") of " + seed, x.output(i), m.output.get(i));
  }

  private static void compareAll() {
    for (long seed = 5000; seed < 9000; seed++) compare(seed);
  }

  public static void main(String[] args) throws InterruptedException {
    arithmetic();
    products();
    statements();
    full();
    justInTime();
    inputs();
    outputs();
    // The Model goes as deep as the programs do.
    Thread deep = new Thread(null, RunTest::compareAll, "deep", 1L << 29);
    deep.start();
    deep.join();
    Kit.due("random programs that were run", compared, 4000);
    System.out.println("of random programs " + answers[0] + " did not end, " + answers[1] + " were FULL, " + answers[3] + " ended without a condition");
    Kit.finish();
  }
}
