/** Part II, edges of the FAULTS 2 NAME, 3 ARGUMENTS and 4 MAIN, and which FAULT comes ahead. */
final class NameEdgeTest {
  private static final String[] FIVE = {"range", "index", "divide", "empty", "error"};
  private static final String[] TOPS = {"var %s;", "var %s[2];", "cond %s;", "cond b,%s;", "cond %s,d;", "proc %s(){}",
    "proc %s(x,y) raises range{}"};

  private static String told(String top, String name) {
    return String.format(top, name);
  }

  private static void topsTwice() {
    Kit.sentence("Told twice is a TOP NAME that is one already");
    for (String first : TOPS) {
      Verdict.good("proc main(){}" + told(first, "a") + "var a1;");
      for (String second : TOPS) {
        String text = "proc main(){}" + told(first, "a");
        String other = second.replace("b,", "e,").replace(",d", ",g");
        Verdict.marked(2, text + told(other, "|a"));
        Verdict.good(text + told(other, "aa"));
      }
      for (String five : FIVE) {
        Verdict.marked(2, "proc main(){}" + told(first, "|" + five));
        Verdict.good("proc main(){}" + told(first, five + "1"));
      }
    }
    Verdict.marked(2, "proc main(){}cond a,b,|a,b;");
    Verdict.marked(2, "proc main(){}cond a;cond b;var c;proc |b(){}var a;");
    Verdict.marked(2, "proc main(){}proc |main(x){}");
    Verdict.marked(2, "proc main(x){}proc |main(){}");
    Kit.sentence("a NAME's second place, not its first, and not its third");
    Verdict.marked(2, "var a;proc main(){}var |a;var a;");
  }

  private static void locals() {
    Kit.sentence("Told twice is .. a LOCAL that is a TOP NAME (wherever that stands)");
    for (String top : TOPS) {
      Verdict.marked(2, "proc main(){}proc f(|a){}" + told(top, "a"));
      Verdict.marked(2, told(top, "a") + "proc main(){}proc f(|a){}");
      Verdict.marked(2, "proc main(){var |a=1;}" + told(top, "a"));
      Verdict.marked(2, told(top, "a") + "proc main(){var |a=1;}");
      Verdict.marked(2, told(top, "a") + "proc main(){if 1{while 1{var |a=1;}}}");
    }
    for (String five : FIVE) {
      Verdict.marked(2, "proc main(){var |" + five + "=1;}");
      Verdict.marked(2, "proc main(){}proc f(|" + five + "){}");
    }
    Verdict.marked(2, "proc main(){var |main=1;}");
    Verdict.marked(2, "proc main(){}proc f(|f){}");
    Verdict.marked(2, "proc main(){}proc f(x,|f){}");
    Kit.sentence("Told twice is .. a LOCAL .. that holds there");
    Verdict.marked(2, "proc main(){}proc f(a,|a){}");
    Verdict.marked(2, "proc main(){}proc f(a,b,c,|a){}");
    Verdict.good("proc main(){}proc f(a,b){}proc g(b,a){}");
    Verdict.marked(2, "proc main(){}proc f(a){var |a=1;}");
    Verdict.marked(2, "proc main(){}proc f(a){if 1{if 1{var |a=1;}}}");
    Verdict.marked(2, "proc main(){var a=1;var |a=1;}");
    Verdict.marked(2, "proc main(){var a=1;if 1{var |a=1;}}");
    Verdict.marked(2, "proc main(){var a=1;if 1{}else{var |a=1;}}");
    Verdict.marked(2, "proc main(){var a=1;while 1{var |a=1;}}");
    Verdict.marked(2, "proc main(){var a=1;try{var |a=1;}when range{}}");
    Verdict.marked(2, "proc main(){var a=1;try{}when range{var |a=1;}}");
    Verdict.good("proc main(){if 1{var a=1;}else{var a=2;}}");
    Verdict.good("proc main(){if 1{var a=1;}var a=2;}");
    Verdict.good("proc main(){while 1{var a=1;}if 1{var a=2;}var a=3;}");
    Verdict.good("proc main(){try{var a=1;}when range{var a=2;}when index{var a=3;}var a=4;}");
    Verdict.good("proc main(){var a=1;}proc f(a){}proc g(){var a=1;}");
    Verdict.marked(2, "proc main(){if 1{var a=1;}var a=2;var |a=3;}");
  }

  private static void holding() {
    Kit.sentence("A LOCAL is a parameter, in all of its proc");
    Verdict.good("proc main(){}proc f(a){out a;if a{while a{out a;}}else{out a;}try{out a;}when range{out a;}a=1;return a;}");
    Verdict.marked(2, "proc main(){}proc f(a){}proc g(){out |a;}");
    Verdict.marked(2, "proc main(){out |a;}proc f(a){}");
    Kit.sentence("or the NAME of a 'var' statement, from behind that statement");
    Verdict.good("proc main(){var a=1;out a;}");
    Verdict.marked(2, "proc main(){out |a;var a=1;}");
    Verdict.marked(2, "proc main(){|a=1;var a=1;}");
    Verdict.marked(2, "proc main(){var a=|a;}");
    Verdict.marked(2, "proc main(){var a=1+(2*-|a);}");
    Verdict.marked(2, "var b[2];proc main(){var a=b[|a];}");
    Verdict.marked(2, "proc main(){while |a{var a=1;}}");
    Kit.sentence("to its BLOCK's end");
    Verdict.good("proc main(){if 1{var a=1;out a;}}");
    Verdict.marked(2, "proc main(){if 1{var a=1;}out |a;}");
    Verdict.marked(2, "proc main(){if 1{var a=1;}else{out |a;}}");
    Verdict.marked(2, "proc main(){while 1{var a=1;}|a=2;}");
    Verdict.marked(2, "proc main(){try{var a=1;}when range{out |a;}}");
    Verdict.marked(2, "proc main(){try{}when range{var a=1;}when index{out |a;}}");
    Verdict.marked(2, "proc main(){try{}when range{var a=1;}out |a;}");
    Verdict.marked(2, "proc main(){if 1{if 1{var a=1;}out |a;}}");
    Verdict.good("proc main(){var a=1;if 1{if 1{out a;}out a;}out a;}");
    Verdict.marked(2, "proc main(){var a=1;}proc f(){out |a;}");
    Verdict.good("proc main(){var a=1;if 1{var b=a;var c=b;}var b=a;var c=b;out c;}");
  }

  private static void conditionsTwice() {
    Kit.sentence("Told twice is .. a condition for the second time behind one raises");
    Verdict.good("cond c;proc main() raises range,index,divide,empty,error,c{}");
    Verdict.marked(2, "cond c;proc main() raises range,|range,c,c{}");
    Verdict.marked(2, "cond c;proc main() raises c,range,index,|c{}");
    Verdict.marked(2, "cond c;proc main() raises c,range,|range{}");
    Verdict.good("cond c;proc main() raises c{}proc f() raises c{}");
    Verdict.good("cond c;proc main() raises c{try{raise c;}when c{raise c;}}");
    Kit.sentence("or in the whens of one try");
    Verdict.good("proc main(){try{}when range{}when index{}when divide{}when empty{}when error{}}");
    Verdict.marked(2, "proc main(){try{}when range{}when |range{}}");
    Verdict.marked(2, "proc main(){try{}when range{}when index{}when |range{}when index{}}");
    Verdict.marked(2, "proc main(){try{}when index{}when range{out 1;if 1{}}when |range{}}");
    Verdict.good("proc main(){try{}when range{}try{}when range{}}");
    Verdict.good("proc main(){try{try{}when range{}}when range{}}");
    Verdict.good("proc main(){try{}when range{try{}when range{}}when index{try{}when range{}when index{}}}");
    Verdict.marked(2, "proc main(){try{}when range{try{}when range{}when index{}}when index{}when |range{}}");
    Verdict.marked(2, "proc main(){try{}when range{try{}when index{}when |index{}}when index{}}");
  }

  private static final String TOLD = "var v;var w[3];cond c;proc p(x){}";

  /** The NAMES of all kinds where only some may stand. */
  private static void used(String text, String fine) {
    String[] names = {"v", "w", "c", "p", "l", "range", "main", "none", "x"};
    for (String n : names) {
      String program = TOLD + "proc main(){var l=1;" + text + "}";
      // main is a proc, too, but has no parameter for the one argument.
      if (n.equals("main") && fine.equals("p")) Verdict.marked(3, program.replace("@", "|" + n));
      else if (fine.contains(n.substring(0, 1))) Verdict.good(program.replace("@", n));
      else Verdict.marked(2, program.replace("@", "|" + n));
    }
  }

  private static void uses() {
    Kit.sentence("A NAME alone in an E, or ahead of =, must be a LOCAL that holds there or a var without [ ]");
    used("out @;", "vl");
    used("out 1+-(2*@);", "vl");
    used("if @{}", "vl");
    used("@=1;", "vl");
    used("out w[@];", "vl");
    used("p(@);", "vl");
    Kit.sentence("ahead of [ a var with it");
    used("out @[1];", "w");
    used("@[1]=1;", "w");
    Kit.sentence("ahead of ( a proc");
    used("@(1);", "p");
    used("out @(1);", "p");
    Kit.sentence("behind raises, when, raise a condition");
    used("raise @;", "cr");
    used("try{}when @{}", "cr");
    for (String n : new String[] {"v", "w", "p", "main", "none", "x"}) {
      Verdict.marked(2, TOLD + "proc main() raises |" + n + "{}");
      Verdict.marked(2, TOLD + "proc main() raises range,|" + n + "{}");
    }
    Verdict.good(TOLD + "proc main() raises c,range{}");
    Verdict.marked(2, "proc main(){}proc f(x) raises |x{}");
    // TOP NAMES are told anywhere.
    Verdict.good("proc main(){v=1;w[0]=v;p(v);raise c;}" + TOLD);
    Kit.sentence("NAME: the first NAME along the text");
    Verdict.marked(2, "proc main(){out |a+b;out d;}");
    Verdict.marked(2, "proc main(){|a=b;}");
    Verdict.marked(2, "proc main(){|a(b(d));}");
    Verdict.marked(2, "var w[1];proc main(){w[|a]=b;}");
    Verdict.marked(2, "proc main(){|a[b]=d;}");
    Verdict.marked(2, "proc main(){try{out |a;}when b{out d;}}");
    Verdict.marked(2, "proc main(){try{}when |b{out d;}when e{}}");
    Verdict.marked(2, "proc main(){try{}when range{out |d;}when e{}}");
    Verdict.marked(2, "proc main() raises |a{out b;}");
    Verdict.marked(2, "proc main(){var a=|b;var a=1;}");
    Verdict.marked(2, "var a;proc main(){var |a=b;}");
    Verdict.marked(2, "var a;var |a;proc main(){out b;}");
    Verdict.marked(2, "var a;proc main(){out |b;}var a;");
    Verdict.marked(2, "proc f(|a){}proc main(){out b;}var a;var a;");
  }

  private static void arguments() {
    Kit.sentence("ARGUMENTS: the NAME of the first call .. that has not as many as its proc has parameters");
    for (int has = 0; has <= 8; has++) {
      StringBuilder parameters = new StringBuilder();
      for (int i = 0; i < has; i++) parameters.append(i > 0 ? "," : "").append("a").append(i);
      for (int given = 0; given <= 10; given++) {
        StringBuilder arguments = new StringBuilder();
        for (int i = 0; i < given; i++) arguments.append(i > 0 ? "," : "").append("(").append(i).append(")");
        String head = "proc f(" + parameters + "){}proc main(){";
        if (given == has) {
          Verdict.good(head + "f(" + arguments + ");out f(" + arguments + ");}");
        } else {
          Verdict.marked(3, head + "|f(" + arguments + ");}");
          Verdict.marked(3, head + "out 1+|f(" + arguments + ");}");
        }
      }
    }
    Kit.sentence("ARGUMENTS: .. the first call along the text");
    String two = "proc f(x){return x;}proc g(x,y){return f(x);}";
    Verdict.marked(3, two + "proc main(){f(1);|f();g(1);}");
    Verdict.marked(3, two + "proc main(){|f(g(1),2);}");
    Verdict.marked(3, two + "proc main(){f(|g(f()));}");
    Verdict.marked(3, two + "proc main(){g(1,|g(1));f();}");
    Verdict.marked(3, two + "proc main(){g(f(1),f(g(1,2)));out g(1,2)+|f(1,2);}");
    Verdict.marked(3, "proc main(){|f();}proc f(x){}");
    Verdict.marked(3, "proc main(){}proc f(x){|f();}proc g(){f();}");
    Verdict.marked(3, "proc main(){|main(1);}");
    Verdict.good("proc main(){main();}");
  }

  private static void main() {
    Kit.sentence("MAIN: no proc main without parameters (at the text's length)");
    for (String end : new String[] {"", " ", "\n\n", "#", "# proc main(){}\n"}) {
      Verdict.good("proc main(){}" + end);
      Verdict.good("var v;proc f(x){}proc main(){}cond c;" + end);
      Verdict.behind(4, end);
      Verdict.behind(4, "proc f(){}" + end);
      Verdict.behind(4, "proc main1(){}proc mai(){}" + end);
      Verdict.behind(4, "proc main(x){}" + end);
      Verdict.behind(4, "proc main(a,b,c,d,e,f,g,h){}" + end);
      Verdict.behind(4, "var main;" + end);
      Verdict.behind(4, "var main[2];" + end);
      Verdict.behind(4, "cond main;" + end);
      Verdict.behind(4, "proc f(main){}" + end);
      Verdict.behind(4, "proc f(){var main=1;}" + end);
    }
  }

  /** Texts with a FAULT of each kind from one on. */
  private static void ahead() {
    Kit.sentence("FAULTS by kind (a lesser kind comes ahead of others)");
    String large = "var b[0];";
    Verdict.behind(5, large + "proc main(){}");
    Verdict.behind(4, large);
    Verdict.marked(3, large + "proc f(x){|f();}");
    Verdict.marked(2, large + "proc f(x){f();|g();}");
    Verdict.marked(1, large + "proc f(x){f();g();}|;");
    Verdict.marked(3, "proc main(){|main(1);}" + large);
    Verdict.marked(2, "proc main(){main(1);|x=1;}" + large);
    Verdict.marked(1, "proc main(){main(1);x=1;|1}" + large);
    Verdict.marked(2, "proc f(x){f();}var |f;");
    Verdict.behind(4, large + "proc f(x){f(1);}");
    // The later place is the one of the lesser kind.
    Verdict.marked(2, "proc f(x){f();f();}proc main(){out |y;}");
    Verdict.behind(1, "proc f(x){f();out y;}proc main(){");
  }

  public static void main(String[] args) {
    topsTwice();
    locals();
    holding();
    conditionsTwice();
    uses();
    arguments();
    main();
    ahead();
    Kit.finish();
  }
}
