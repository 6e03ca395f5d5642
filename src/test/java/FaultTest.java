import java.util.ArrayList;
import java.util.List;
import java.util.Random;

/** Promises 4 and 5: texts with faults, by hand and made from random programs, the latter beside the Judge. */
final class FaultTest {
  private static void malformed() {
    String[] texts = {
      "|x", "var |1;", "var a|", "var a |b;", "var a[|];", "var a[1|;", "var a[1]|", "var a[|-1];", "cond |;", "cond a|;".replace("|;", ",|;"),
      "proc main|{}", "proc main(|,){}", "proc main(a|){}".replace("a|", "a,|"), "proc main()|", "proc main() raises |{}",
      "proc main(){|", "proc main(){}|}", "proc main(){x|;}", "proc main(){x=|;}", "proc main(){x=1|}", "proc main(){x[1]|;}",
      "proc main(){f(|,);}", "proc main(){f(1|;}", "proc main(){f()|}", "proc main(){if |{}}", "proc main(){if 1 |x}",
      "proc main(){|else{}}", "proc main(){if 1{}else |if 2{}}", "proc main(){while|{}}", "proc main(){try{}|}",
      "proc main(){try |when}", "proc main(){|when a{}}", "proc main(){raise |1;}", "proc main(){return|;}", "proc main(){out 1|,2;}",
      "proc main(){out 1<2|<3;}", "proc main(){out 1+|;}", "proc main(){out +|1;}".replace("+|", "|+"), "proc main(){out (1|;}",
      "proc main(){out ()|;}".replace("()|", "(|)"), "proc main(){out 1=|=2;}".replace("=|=", "|= ="), "proc main(){out a|!b;}",
      "proc main(){var x|;}", "proc main(){var x[|1];}".replace("[|", "|["), "proc main(){in|=1;}".replace("in|", "|in"),
      "proc main(){|out=1;}".replace("|out=", "out |="), "proc |var(){}", "proc main(){|1;}", "proc main(){out |A;}", "proc main(){out a|B;}",
      "proc main(){out a|\u0080;}", "proc main(){|_}", "# all\n|.", "proc main(){}|\0", "proc main(){out abcdefghijkl|m;}",
      "proc abcdefghijklmnop(){}".replace("klm", "kl|m"), "proc main(){1a|}".replace("1a|", "|1a"), "out |32768;".replace("out |", "|out "),
      "proc main(){out |32768;}", "proc main(){out |99999999999999999999;}", "proc main(){out |4294967296;}",
      "abcdefghijkl|m", "proc main(){out 1 abcdefghijkl|mn;}", "proc main(){|}}".replace("|}}", "}|}"), "proc|", "var a;var|",
      "proc main(){} cond a b;".replace("a b", "a |b"), "proc main(){out 12|abc;}", "proc main(){x(1)|=2;}", "proc main(){(|1);}".replace("(|", "|("),
      "proc main(a;){}".replace(";", "|;"), "proc main() raises a,|{}", "|32768", "|!=", "|!", "proc main(){out 1|! =2;}",
      "var x = 1;".replace("=", "|="), "proc main(){cond a;}".replace("cond", "|cond"), "proc main(){proc f(){}}".replace("proc f", "|proc f"),
    };
    for (String t : texts) Verdict.marked(1, t);
    Verdict.faulty("proc main(){#}", 1, 14);
    Verdict.faulty("proc main(){out 1;#}\n", 1, 21);
  }

  private static void nested() {
    Verdict.good("proc main(){out " + Kit.times("(", 29) + "1" + Kit.times(")", 29) + ";}");
    Verdict.marked(1, "proc main(){out " + Kit.times("(", 29) + "|(1" + Kit.times(")", 30) + ";}");
    Verdict.good("proc main(){out " + Kit.times("-", 29) + "1;}");
    Verdict.marked(1, "proc main(){out " + Kit.times("-", 29) + "|-1;}");
    Verdict.good("proc main(){out " + Kit.times("-(", 14) + "-1" + Kit.times(")", 14) + ";}");
    Verdict.marked(1, "proc main(){out " + Kit.times("-(", 14) + "-|(1)" + Kit.times(")", 14) + ";}");
    Verdict.good("var a[1];proc main(){out " + Kit.times("a[", 29) + "0" + Kit.times("]", 29) + ";}");
    Verdict.marked(1, "var a[1];proc main(){out " + Kit.times("a[", 29) + "a|[0]" + Kit.times("]", 29) + ";}");
    Verdict.good("var a[1];proc main(){" + Kit.times("a[", 29) + "0" + Kit.times("]", 29) + "=-1;}");
    Verdict.marked(1, "var a[1];proc main(){" + Kit.times("a[", 29) + "|-1" + Kit.times("]", 29) + "=-1;}");
    Verdict.good("proc f(x){} proc main(){" + Kit.times("f(", 29) + "0" + Kit.times(")", 29) + ";}");
    Verdict.marked(1, "proc f(x){} proc main(){" + Kit.times("f(", 29) + "f|(0)" + Kit.times(")", 29) + ";}");
    Verdict.good("proc f(){} proc main(){" + Kit.times("if 1{", 28) + "f();" + Kit.times("}", 28) + "}");
    Verdict.good("proc main(){" + Kit.times("if 1{", 29) + "out 1;" + Kit.times("}", 29) + "}");
    Verdict.marked(1, "proc main(){" + Kit.times("if 1{", 29) + "if 1|{}" + Kit.times("}", 29) + "}");
    Verdict.marked(1, "proc main(){" + Kit.times("if 1{", 29) + "out |-1;" + Kit.times("}", 29) + "}");
    Verdict.marked(1, "proc f(){} proc main(){" + Kit.times("while 1{", 29) + "f|();" + Kit.times("}", 29) + "}");
    Verdict.marked(1, "proc main(){" + Kit.times("try{", 29) + "try|{}when range{}");
    // What has ended does not count.
    Verdict.good("proc main(){" + Kit.times("if 1{}", 40) + "out " + Kit.times("-1+", 40) + Kit.times("(1)*", 40) + "1;}");
  }

  private static void names() {
    String[] texts = {
      "var a; var |a; proc main(){}", "var a; cond |a; proc main(){}", "cond a,|a; proc main(){}", "proc f(){} proc |f(){} proc main(){}",
      "proc main(){} proc |main(){}", "var |range; proc main(){}", "cond b,|error; proc main(){}", "proc |index(){}", "proc main(){var |empty=1;}",
      "proc f(a,|a){} proc main(){}", "proc f(|a){} proc main(){} var a;", "proc f(|f){} proc main(){}", "proc main(){var |x=1;} cond x;",
      "proc main(){var x=1; var |x=2;}", "proc main(){var x=1; if 1{var |x=2;}}", "proc f(x){var |x=2;} proc main(){}",
      "proc main(){if 1{var x=1;} |x=2;}", "proc main(){if 1{var x=1;}else{out |x;}}", "proc main(){var x=|x;}", "proc main(){out |x; var x=1;}",
      "proc main(){|a=1;}", "var a[1]; proc main(){|a=1;}", "var a[1]; proc main(){out |a;}", "var a; proc main(){out |a[0];}",
      "var a; proc main(){|a[0]=1;}", "var a; proc main(){|a();}", "var a; proc main(){out |a();}", "proc f(){} proc main(){out |f;}",
      "proc f(){} proc main(){|f=1;}", "proc f(){} proc main(){|f[1]=1;}", "cond c; proc main(){out |c;}", "proc main(){var x=1; |x();}",
      "proc main(){var x=1; |x[0]=1;}", "proc main(){raise |c;}", "var c; proc main(){raise |c;}", "proc main() raises |main{}",
      "proc f(x) raises |x{} proc main(){}", "proc main() raises range,|range{}", "cond c; proc main() raises c,range,|c{}",
      "proc main(){try{}when |x{}}", "proc main(){try{}when range{}when |range{}}",
      "proc main(){try{}when range{try{}when range{}}when |range{}}", "proc main(){try{}when range{var x=1;}when index{out |x;}}",
      "proc main(){try{var x=1;}when range{out |x;}}", "proc main(){|f(|g());}".replace("(|", "("), "proc main(a){out |b(a);}",
      "proc main(){out a1+|a;} var a1;", "proc main(){out abcdefghijkl+|abcdefghijk;} var abcdefghijkl;",
      "proc f(){f(1); |x=1;}", "proc f(x){} proc main(){f(); out |y;}", "proc main(){var x=1; if x{out x;} out x;} proc f(){out |x;}",
    };
    for (String t : texts) Verdict.marked(2, t);
    String[] fine = {
      "proc main(){if 1{var x=1;}else{var x=2;} var x=3;}", "proc f(a){} proc g(a){var b=a;} proc main(){var b=1; var a=b;}",
      "proc main(){a=1; f(); try{raise c;}when c{}} var a; proc f(){} cond c;", "proc main(){try{}when range{}when index{} try{}when range{}}",
      "proc main(){try{try{}when range{}}when range{try{}when range{}}} ", "proc f() raises range,index,divide,empty,error{} proc main(){}",
      "proc main(){var varx=1; var in1=varx; var iff=in1; out iff;}", "proc main(){out 000000000000000000000000032767;}",
      "proc main(){out 1<=2;}", "proc main(){out(1);return(2);}", "proc main(){if(1){}while(0){}}", "proc main(){}#", "#\nproc main(){}#x\n",
      "proc\tmain\r\n(\n)\n{\n}\n", "proc main(){return 1;out 2;}",
    };
    for (String t : fine) Verdict.good(t);
  }

  private static void argumentsAndMain() {
    String[] texts = {
      "proc f(x){} proc main(){|f();}", "proc f(x){} proc main(){|f(1,2);}", "proc f(){} proc main(){out |f(1);}",
      "proc f(x){} proc main(){|f(f());}".replace("f());", "f(),1);"), "proc f(x){} proc main(){f(|f());}", "proc main(){f(1); |f();} proc f(x){}",
      "proc main(){|main(1);}", "proc f(x,y){} proc main(){out f(1,2)+|f(f(1,2));}",
    };
    for (String t : texts) Verdict.marked(3, t);
    Verdict.faulty("", 4, 0);
    Verdict.faulty("  ", 4, 2);
    Verdict.faulty("proc f(){}", 4, 10);
    Verdict.faulty("proc main(x){}", 4, 14);
    Verdict.faulty("var main;", 4, 9);
    Verdict.faulty("proc f(x){f();}", 3, 10);
    Verdict.faulty("proc f(x){f(); g();}", 2, 15);
    Verdict.faulty("proc f(x){f(); g()}", 1, 18);
    Verdict.faulty("var a[0];", 4, 9);
  }

  private static String procs(int n) {
    StringBuilder all = new StringBuilder("proc main(){}");
    for (int i = 1; i < n; i++) all.append("proc f").append(i).append("(){}");
    return all.toString();
  }

  private static String list(String head, String name, int n, String tail) {
    StringBuilder all = new StringBuilder(head);
    for (int i = 0; i < n; i++) all.append(i > 0 ? "," : "").append(name).append(i);
    return all.append(tail).toString();
  }

  private static String vars(int n) {
    StringBuilder all = new StringBuilder("proc main(){}");
    for (int i = 0; i < n; i++) all.append("var v").append(i).append(";");
    return all.toString();
  }

  private static String locals(int n) {
    StringBuilder all = new StringBuilder("proc main(){} proc f(a,b){if 1{var c=1;}");
    for (int i = 0; i < n; i++) all.append("var v").append(i).append("=1;");
    return all.append("}").toString();
  }

  private static void large() {
    Verdict.edge(procs(40), procs(41));
    Verdict.edge(list("cond ", "c", 25, ";proc main(){}"), list("cond ", "c", 26, ";proc main(){}"));
    Verdict.edge(vars(60), vars(61));
    Verdict.edge(list("proc main(){}proc f(", "a", 8, "){}"), list("proc main(){}proc f(", "a", 9, "){}"));
    Verdict.edge(locals(16), locals(17));
    Verdict.edge("var a[1];proc main(){}", "var a[0];proc main(){}");
    Verdict.edge("var a[500];proc main(){}", "var a[501];proc main(){}");
    Verdict.faulty("var a[32767];proc main(){}", 5, 26);
    int words = Kit.compiled("proc main(){}").count(3);
    // Eleven arrays of 500, and one that fills the rest to the word.
    StringBuilder text = new StringBuilder("proc main(){}");
    for (int i = 0; i < 11; i++) text.append("var a").append(i).append("[500];");
    int left = 500 - words;
    Verdict.edge(text + "var z[" + left + "];", text + "var z[" + (left + 1) + "];");
    // CODE alone.
    String out = "var v;proc main(){out v" + Kit.times("/v", 200) + ";}";
    Verdict.good(out);
    out = "var v;proc main(){out v" + Kit.times("/v", 1400) + ";}";
    Verdict.faulty(out, 5, out.length());
    // Texts of 3000 bytes with as many parts as there may be.
    String many = "proc main(){" + Kit.times("f();", 744) + "}proc f(){}";
    Verdict.faulty(many, 5, 2999);
    Verdict.good("proc main(){" + Kit.times("f();", 500) + "}proc f(){}");
    many = "proc main(){" + Kit.times("try{}when range{}", 174) + "}";
    Verdict.good(many);
    many = "proc main(){" + Kit.times("if 1{}", 490) + "}";
    Verdict.good(many);
    many = Kit.times("proc a(){}", 300);
    Verdict.faulty(many, 2, 15);
    many = "cond " + Kit.times("a,", 1496) + "a;";
    Verdict.faulty(many, 2, 7);
    many = "proc f(" + Kit.times("a,", 1490) + "a){}";
    Verdict.faulty(many, 2, 9);
    many = "proc main() raises " + Kit.times("a,", 1488) + "a{}";
    Verdict.faulty(many, 2, 19);
    many = Kit.times("var a;", 500);
    Verdict.faulty(many, 2, 10);
    Verdict.faulty(Kit.times("(", 3000), 1, 0);
    Verdict.faulty("proc main(){out " + Kit.times("(", 2984), 1, 16 + 29);
    Verdict.faulty(Kit.times(" ", 3000), 4, 3000);
    Verdict.good("proc main(){out " + Kit.times("0", 2980) + "7;}");
  }

  private static void stays() {
    GatedPile x = new GatedPile();
    Kit.due("fault(0) ahead of any", x.fault(0), -1);
    Kit.due("fault(1) ahead of any", x.fault(1), -1);
    Kit.due("compile of nothing", x.compile(), -1);
    Kit.due("its kind", x.fault(0), 4);
    Kit.due("its place", x.fault(1), 0);
    Kit.due("no words", x.count(3), 0);
    Kit.due("no run", x.run(), -1);
    Kit.feed(x, "cond c; var g[9]; proc main() raises c{out 7; raise c;}");
    int words = x.compile();
    Kit.due("fault(0) without one", x.fault(0), 0);
    Kit.due("fault(1) without one", x.fault(1), -1);
    for (int what : new int[] {-1, 2, Integer.MIN_VALUE, Integer.MAX_VALUE}) Kit.due("fault(" + what + ")", x.fault(what), -1);
    Kit.due("the tape is empty", x.count(7), 0);
    x.run();
    long before = sum(x);
    int[] faults = {1, 2, 3, 4, 5};
    String[] texts = {"proc main(){x=;} var q;", "proc main(){q=1;} proc f(){} cond d,e;", "proc main(){main(1);out 1;out 2;}",
      "proc f(){out 9;}", "var b[501]; cond d; proc main(){out 3; out 4;}"};
    for (int i = 0; i < 5; i++) {
      Kit.feed(x, texts[i]);
      Kit.due("compile of " + texts[i], x.compile(), -1);
      Kit.due("kind of " + texts[i], x.fault(0), faults[i]);
      Kit.due("the tape is empty behind a fault", x.count(7), 0);
      Kit.due("CODE stays behind " + texts[i], x.count(3), words);
      Kit.due("all stays behind " + texts[i], sum(x), before);
    }
    Kit.feed(x, "var b; var c[502]; proc main(){out 3; out 4; b=c[1]*b;}".replace("502", "400"));
    Kit.due("compile anew", x.compile() > 82, true);
    Kit.due("no fault any more", x.fault(0), 0);
    Kit.due("the processor stays", x.output(0), 7);
    Kit.due("its memory stays", x.memory(4), (short) (6 << 12 | 5 << 9 | 82));
    Kit.due("run anew", x.run(), 0);
    Kit.due("OUTPUT anew", x.count(9), 2);
    Kit.due("GLOBALS anew", x.count(4), 401);
  }

  private static long sum(GatedPile x) {
    long all = 0;
    for (int what = 0; what < 11; what++) all = all * 31 + x.count(what);
    for (int i = 0; i < x.count(2); i++) for (int what = 0; what < 4; what++) all = all * 31 + x.order(i, what);
    for (int p = 0; p < x.count(0); p++) for (int what = 0; what < 4; what++) all = all * 31 + x.proc(p, what);
    for (int at = 0; at < x.count(3); at++) all = all * 31 + x.word(at);
    for (int at = 0; at < 8192; at++) all = all * 31 + x.memory(at);
    for (int k = 0; k < 14; k++) all = all * 31 + x.look(k);
    for (int i = 0; i < x.count(9); i++) all = all * 31 + x.output(i);
    return all;
  }

  // ---- texts that were good once

  private static final int[] kinds = new int[6];

  private static void random(long seed) {
    Random random = new Random(seed);
    Model m = new Model(seed, 15 + random.nextInt(60), false);
    String text = m.text(random.nextBoolean());
    int changes = 1 + random.nextInt(2);
    for (int i = 0; i < changes; i++) text = changed(text, random);
    if (text.length() > 3000) return;
    Judge j = new Judge(text);
    GatedPile x = new GatedPile();
    Kit.feed(x, text);
    boolean answered = x.compile() != -1;
    Kit.due("kind of " + seed + ": " + text, x.fault(0), j.kind);
    Kit.due("place of " + seed + ": " + text, x.fault(1), j.place);
    Kit.due("answer of " + seed + ": " + text, answered, j.kind == 0);
    kinds[j.kind]++;
  }

  private static String changed(String text, Random random) {
    List<Judge.Token> tokens = new Judge(text).tokens;
    if (tokens.isEmpty()) return text;
    Judge.Token one = tokens.get(random.nextInt(tokens.size()));
    Judge.Token other = tokens.get(random.nextInt(tokens.size()));
    int end = one.place + one.text.length();
    String head = text.substring(0, Math.min(one.place, text.length()));
    String tail = end < text.length() ? text.substring(end) : "";
    switch (random.nextInt(9)) {
      case 0: return head + tail;
      case 1: return head + " " + other.text + " " + tail;
      case 2: return head + one.text + " " + other.text + " " + tail;
      case 3: {
        int at = random.nextInt(text.length());
        return text.substring(0, at) + (char) random.nextInt(256) + text.substring(at + 1);
      }
      case 4: return text.substring(0, random.nextInt(text.length() + 1));
      default: return renamed(text, tokens, random);
    }
  }

  private static String renamed(String text, List<Judge.Token> tokens, Random random) {
    List<Judge.Token> names = new ArrayList<>();
    for (Judge.Token t : tokens) if (t.kind.equals("NAME")) names.add(t);
    if (names.isEmpty()) return text;
    Judge.Token one = names.get(random.nextInt(names.size()));
    Judge.Token other = names.get(random.nextInt(names.size()));
    return text.substring(0, one.place) + other.text + text.substring(one.place + one.text.length());
  }

  public static void main(String[] args) {
    malformed();
    nested();
    names();
    argumentsAndMain();
    large();
    stays();
    for (long seed = 0; seed < 6000; seed++) random(seed);
    StringBuilder seen = new StringBuilder("random texts by kind of fault:");
    for (int k : kinds) seen.append(" ").append(k);
    System.out.println(seen);
    Kit.finish();
  }
}
