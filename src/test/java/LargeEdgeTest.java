/** Part II, FAULT 5 LARGE: each limit with the last text that keeps to it and the first that doesn't. */
final class LargeEdgeTest {
  private static String list(String head, String name, int n, String between, String tail) {
    StringBuilder all = new StringBuilder(head);
    for (int i = 0; i < n; i++) all.append(i > 0 ? between : "").append(name).append(i);
    return all.append(tail).toString();
  }

  private static String each(String part, int n) {
    StringBuilder all = new StringBuilder();
    for (int i = 0; i < n; i++) all.append(part.replace("@", "" + i));
    return all.toString();
  }

  private static void procs() {
    Kit.sentence("more than 40 procs");
    Verdict.edge("proc main(){}" + each("proc f@(){}", 39), "proc main(){}" + each("proc f@(){}", 40));
    Verdict.edge(each("proc f@(x){}", 39) + "proc main(){}", each("proc f@(x){}", 40) + "proc main(){}");
    GatedPile x = Kit.compiled(each("proc f@(){}", 39) + "proc main(){f38();}");
    Kit.due("procs", x.count(0), 40);
    Kit.due("the 40th one's ENTER", x.proc(39, 3), 39 * 4);
    Kit.due("run of the 40th", x.run(), 0);
    Verdict.behind(5, "proc main(){}" + each("proc f@(){}", 200));
  }

  private static void conditions() {
    Kit.sentence("30 conditions (with the five)");
    String main = "proc main(){}";
    Verdict.edge(list("cond ", "c", 25, ",", ";") + main, list("cond ", "c", 26, ",", ";") + main);
    Verdict.edge(main + each("cond c@;", 25), main + each("cond c@;", 26));
    Verdict.edge(each("cond c@;", 20) + main + "cond a,b,c,d,e;", each("cond c@;", 20) + main + "cond a,b,c,d,e,f;");
    GatedPile x = Kit.compiled(list("cond ", "c", 25, ",", ";") + "proc main() raises c24{raise c24;}");
    Kit.due("conditions", x.count(1), 30);
    Kit.due("run that ends with the last", x.run(), 30);
    Verdict.behind(5, main + each("cond c@;", 300));
  }

  private static void vars() {
    Kit.sentence("60 vars");
    String main = "proc main(){}";
    Verdict.edge(each("var v@;", 60) + main, each("var v@;", 61) + main);
    Verdict.edge(main + each("var v@[2];", 60), main + each("var v@[2];", 61));
    Verdict.edge(each("var v@;", 30) + main + each("var w@[1];", 30), each("var v@;", 30) + main + each("var w@[1];", 31));
    GatedPile x = Kit.compiled(each("var v@;", 60) + "proc main(){v59=7;out v59;out v58;}");
    Kit.due("a of the last var", x.order(2, 1), 59);
    Kit.due("run", x.run(), 0);
    Kit.due("the last var", x.output(0), 7);
    Kit.due("the one ahead of it", x.output(1), 0);
    Kit.due("its place", x.memory(x.count(3) + 59), 7);
    // LOCALS are no vars.
    Verdict.good(each("var v@;", 60) + "proc main(){" + each("var l@=1;", 16) + "}");
    Verdict.behind(5, main + each("var v@;", 300));
  }

  private static void parameters() {
    Kit.sentence("8 parameters of a proc");
    Verdict.edge(list("proc main(){}proc f(", "a", 8, ",", "){}"), list("proc main(){}proc f(", "a", 9, ",", "){}"));
    Verdict.edge(list("proc f(", "a", 8, ",", "){}") + list("proc g(", "a", 8, ",", "){}proc main(){}"),
        list("proc f(", "a", 8, ",", "){}") + list("proc g(", "a", 9, ",", "){}proc main(){}"));
    GatedPile x = Kit.compiled(list("proc f(", "a", 8, ",", "){return a7*10+a0;}proc main(){out f(1,2,3,4,5,6,7,8);}"));
    Kit.due("parameters", x.proc(0, 0), 8);
    Kit.due("SIZE", x.proc(0, 1), 10);
    Kit.due("run", x.run(), 0);
    Kit.due("the eighth and the first", x.output(0), 81);
    Verdict.behind(5, list("proc main(){}proc f(", "a", 500, ",", "){}"));
    // A ninth argument is a FAULT of its call, which comes ahead.
    Verdict.marked(3, list("proc f(", "a", 9, ",", "){}proc main(){|f(1,2,3,4,5,6,7,8);}"));
    Verdict.behind(5, list("proc f(", "a", 9, ",", "){}proc main(){f(1,2,3,4,5,6,7,8,9);}"));
  }

  private static void locals() {
    Kit.sentence("16 other LOCALS at a time in one");
    Verdict.edge("proc main(){" + each("var v@=1;", 16) + "}", "proc main(){" + each("var v@=1;", 17) + "}");
    String f = list("proc main(){}proc f(", "a", 8, ",", "){");
    Verdict.edge(f + each("var v@=1;", 16) + "}", f + each("var v@=1;", 17) + "}");
    Kit.sentence("16 other LOCALS at a time: of BLOCKS within one another together");
    Verdict.edge("proc main(){" + each("var v@=1;", 10) + "if 1{" + each("var w@=1;", 6) + "}}",
        "proc main(){" + each("var v@=1;", 10) + "if 1{" + each("var w@=1;", 7) + "}}");
    Verdict.edge("proc main(){" + each("if 1{var v@=1;", 16) + Kit.times("}", 17),
        "proc main(){" + each("if 1{var v@=1;", 17) + Kit.times("}", 18));
    Kit.sentence("16 other LOCALS at a time: what has ended leaves its room");
    Verdict.edge("proc main(){if 1{" + each("var v@=1;", 16) + "}else{" + each("var v@=1;", 16) + "}" + each("var v@=1;", 16) + "}",
        "proc main(){if 1{" + each("var v@=1;", 16) + "}else{" + each("var v@=1;", 17) + "}" + each("var v@=1;", 16) + "}");
    Verdict.edge("proc main(){var a=1;while 1{" + each("var v@=1;", 15) + "}var b=1;}",
        "proc main(){var a=1;var b=1;while 1{" + each("var v@=1;", 15) + "}}");
    Verdict.good(each("proc f@(a){var b=1;var c=2;}", 30) + "proc main(){" + each("var v@=1;", 16) + "}");
    GatedPile x = Kit.compiled(list("proc f(", "a", 8, ",", "){") + each("var v@=@;", 16) + "v15=v15+a7;return v15-v14;}proc main(){out f(1,2,3,4,5,6,7,8);}");
    Kit.due("SIZE", x.proc(0, 1), 26);
    Kit.due("run", x.run(), 0);
    Kit.due("the last LOCALS", x.output(0), 9);
  }

  private static void arrays() {
    Kit.sentence("an array of 0 or more than 500");
    Verdict.edge("var a[1];proc main(){}", "var a[0];proc main(){}");
    Verdict.edge("var a[500];proc main(){}", "var a[501];proc main(){}");
    Verdict.edge("var a[0001];proc main(){}", "var a[0000];proc main(){}");
    Verdict.edge("var a[1];proc main(){}var b[500];", "var a[1];proc main(){}var b[501];");
    Verdict.behind(5, "var a[32767];proc main(){}");
    Verdict.behind(5, "var a[0];var b[1];proc main(){} # behind");
    Kit.due("GLOBALS", Kit.compiled("var a[500];var b[1];var c;proc main(){}").count(4), 502);
  }

  /** Arrays of so many words in all. */
  private static String globals(int words) {
    StringBuilder all = new StringBuilder();
    int left = words;
    for (int i = 0; left > 0; i++) {
      all.append("var g").append(i).append("[").append(Math.min(left, 500)).append("];");
      left -= Math.min(left, 500);
    }
    return all.toString();
  }

  private static void words(String program) {
    GatedPile x = Kit.compiled(program);
    int code = x.count(3);
    Kit.due("words without arrays", code + x.count(4) <= 6000, true);
    int left = 6000 - code - x.count(4);
    GatedPile y = Kit.compiled(program + globals(left));
    Kit.due("words of CODE", y.count(3), code);
    Kit.due("words of CODE and GLOBALS", y.count(3) + y.count(4), 6000);
    Verdict.edge(program + globals(left), program + globals(left + 1));
    if (left > 0) Verdict.good(program + globals(left - 1));
  }

  private static int longerOnes(String program) {
    GatedPile x = Kit.compiled(program);
    int seen = 0;
    for (int at = x.order(0, 3); at + 2 < x.count(3); at++) {
      boolean place = x.word(at) >> 8 == 0x6a && x.word(at + 1) >> 8 == 0x7a && x.word(at + 2) == 0xdb40;
      int to = (x.word(at) & 255) + 256 * (x.word(at + 1) & 255);
      boolean call = to == 8 || to == 38 || to == x.order(0, 3);
      if (place && !call) seen++;
    }
    return seen;
  }

  private static void sizes() {
    Kit.sentence("CODE and GLOBALS above 6000 words");
    words("proc main(){}");
    words("proc main(){out 1;out 2*3/4;}var v;");
    Kit.sentence("CODE and GLOBALS above 6000 words: as they are when all GO reach");
    String many = "var v;proc main(){try{" + Kit.times("v=v+1;", 100) + "}when range{out 1;}}";
    Kit.due("longer GO of it", longerOnes(many) > 5, true);
    words(many);
    String more = "var v;proc main(){v=1" + Kit.times("+v", 215) + ";}";
    Kit.due("longer GO of it", longerOnes(more) > 50, true);
    words(more);
    Kit.sentence("CODE and GLOBALS above 6000 words: CODE alone");
    String tail = "var v=1;out v" + Kit.times("/v", 190) + ";}";
    int base = Kit.compiled("proc main(){" + tail).count(3);
    String[] texts = new String[2];
    // OUTs ahead leave all GO as they are: eight words with a small number, nine with a larger one.
    for (int i = 0; i < 2; i++) {
      int nines = (6000 + i - base) % 8;
      int eights = (6000 + i - base - 9 * nines) / 8;
      texts[i] = "proc main(){" + Kit.times("out 1;", eights) + Kit.times("out 256;", nines) + tail;
    }
    Kit.due("words of CODE", Kit.compiled(texts[0]).count(3), 6000);
    Verdict.edge(texts[0], texts[1]);
    words(texts[0]);
  }

  public static void main(String[] args) {
    procs();
    conditions();
    vars();
    parameters();
    locals();
    arrays();
    sizes();
    Kit.finish();
  }
}
