import java.util.Random;

/** Promise 4: what a text becomes does not hang on the texts that the object has had before. */
final class AgainTest {
  private static final String[] FAULTY = {"proc main(){", "var a;var b;proc f(x){}proc main(){q=1;}", "cond c;proc main() raises c{main(1);}",
    "var v;cond c;proc f() raises range,index{out 9;}", "var b[501];var c;proc main() raises error{}", "", "(", "var a,"};

  private static void same(String when, GatedPile x, GatedPile y) {
    for (int what = 0; what < 2; what++) Kit.due("fault(" + what + ") " + when, x.fault(what), y.fault(what));
    if (y.fault(0) != 0) return;
    for (int what = 0; what < 5; what++) Kit.due("count(" + what + ") " + when, x.count(what), y.count(what));
    for (int i = 0; i <= y.count(2); i++) {
      for (int what = 0; what < 4; what++) Kit.due("order(" + i + ", " + what + ") " + when, x.order(i, what), y.order(i, what));
    }
    for (int p = 0; p <= y.count(0); p++) {
      for (int what = 0; what < 4; what++) Kit.due("proc(" + p + ", " + what + ") " + when, x.proc(p, what), y.proc(p, what));
    }
    for (int at = 0; at <= y.count(3); at++) Kit.due("word(" + at + ") " + when, x.word(at), y.word(at));
    x.reset();
    y.reset();
    for (int at = 0; at < 8192; at++) Kit.due("memory(" + at + ") behind reset " + when, x.memory(at), y.memory(at));
    Kit.due("run " + when, x.run(), y.run());
    Kit.due("clocks of run " + when, x.count(10), y.count(10));
    Kit.due("OUTPUT of run " + when, x.count(9), y.count(9));
  }

  private static String text(Random random) {
    if (random.nextInt(4) == 0) return FAULTY[random.nextInt(FAULTY.length)];
    String text = new Model(random.nextLong(), 20 + random.nextInt(200), random.nextBoolean()).text(true);
    return text.length() > 3000 ? text.substring(0, 3000) : text;
  }

  private static String each(String part, int n) {
    StringBuilder all = new StringBuilder();
    for (int i = 0; i < n; i++) all.append(part.replace("@", "" + i));
    return all.toString();
  }

  /** Texts of which each has much of something, one behind the other. */
  private static void much() {
    String[] texts = {
      "proc main(){" + each("var l@=1;", 17) + "}", "proc main(){}" + each("proc f@(){}", 50), "proc main(){}" + each("var v@;", 70),
      "proc main(){}" + each("cond c@;", 40), "proc f(" + each("a@,", 9) + "z){}proc main(){}",
      "proc main(){" + Kit.times("if 1{}else{}", 200) + "}", "var v;proc main(){try{" + Kit.times("v=v+1;", 200) + "}when range{out 1;}}",
      "var v;proc main(){out v" + Kit.times("/v", 200) + ";}", "proc main(){out 1;}", "proc main(){" + Kit.times("v=v*v;", 150) + "}var v;",
      each("cond c@;", 25) + each("proc f@() raises c@,range{raise c@;}", 20) + "proc main(){f1();}",
      "var w[500];var v;proc main(){w[1]=v;" + Kit.times("while in{}", 100) + "}", "proc main(){" + Kit.times("(", 500),
    };
    GatedPile x = null;
    Random random = new Random(45);
    for (int turn = 0; turn < 400; turn++) {
      if (turn % 100 == 0) x = new GatedPile();
      // A small one behind each, twice: what they were made in is used again.
      String text = turn % 2 == 0 ? texts[random.nextInt(texts.length)] : "proc main(){out 1;}";
      GatedPile y = new GatedPile();
      Kit.feed(x, text);
      Kit.feed(y, text);
      Kit.due("compile of turn " + turn, x.compile(), y.compile());
      if (turn % 100 > 60) continue;
      same("of turn " + turn, x, y);
    }
  }

  /** As many NAMES behind raises as a tape has room for, then few: all within 512 calls. */
  private static void raised() {
    GatedPile x = new GatedPile();
    for (int turn = 0; turn < 2; turn++) {
      Kit.feed(x, "cond c;proc main() raises c" + Kit.times(",c", 1485) + "{}");
      Kit.due("compile", x.compile(), -1);
      Kit.due("fault(0)", x.fault(0), 2);
      Kit.due("fault(1)", x.fault(1), 28);
    }
    String text = "cond c,d;proc f() raises d{raise d;}proc main() raises range,c,d{f();}";
    Kit.feed(x, text);
    x.compile();
    same("behind many raises", x, Kit.compiled(text));
    Kit.due("run", x.run(), 7);
  }

  public static void main(String[] args) {
    Kit.sentence("4. The tape becomes the text, whatever was compiled before");
    Random random = new Random(44);
    for (int object = 0; object < 40; object++) {
      GatedPile x = new GatedPile();
      for (int turn = 0; turn < 12; turn++) {
        String text = text(random);
        GatedPile y = new GatedPile();
        Kit.feed(x, text);
        Kit.feed(y, text);
        int words = y.compile();
        Kit.due("compile of text " + turn + " of object " + object, x.compile(), words);
        same("of text " + turn + " of object " + object, x, y);
      }
    }
    much();
    raised();
    Kit.finish();
  }
}
