import java.util.ArrayList;
import java.util.List;
import java.util.Random;

/** Part II, edges of what goes on with what, and of the thirty within one another. */
final class GrammarEdgeTest {
  private static final String[] TOKENS = {"x", "7", "var", "cond", "proc", "raises", "if", "else", "while", "try", "when",
    "raise", "return", "out", "in", "(", ")", "{", "}", "[", "]", ";", ",", "=", "+", "-", "*", "/", "%", "<", ">", "==",
    "!=", "<=", ">="};
  // Together they go through each part of the grammar.
  private static final String[] PROGRAMS = {
    "var a ; var b [ 3 ] ; cond c ; cond d , e , g ; proc main ( ) { }",
    "proc f ( ) { } proc f1 ( a ) { } proc f2 ( a , b ) raises range { } proc f3 ( a , b , c ) raises range , index , error { }",
    "proc main ( ) { var x = 1 ; x = 2 ; b [ x ] = 3 ; main ( ) ; f ( 1 ) ; f ( 1 , x , 2 ) ; return x ; out x ; raise c ; }",
    "proc main ( ) { if 1 { out 1 ; } if 2 { } else { out 2 ; out 3 ; } while x { } while - x { x = 1 ; } }",
    "proc main ( ) { try { } when range { } try { out 1 ; } when index { } when error { out 1 ; } when c { } out 2 ; }",
    "proc main ( ) { out 1 + 2 - 3 * 4 / 5 % 6 < 7 ; out 1 == 2 ; out in >= - in ; out - - x <= ( 1 + 2 ) * ( x != 3 ) ; }",
    "proc main ( ) { out a [ 1 ] + a [ a [ x ] < 2 ] ; out f ( ) * f ( 1 ) > f ( x , ( 2 ) , b [ f ( in ) ] ) ; }",
    "proc main ( ) { while a [ 1 ] { if f ( ) { } } if in { while 0 { } } else { try { try { } when c { } } when d { } } }",
  };

  /** Each token behind each beginning of a PROGRAM. */
  private static void goesOn() {
    Kit.sentence("PROGRAM: .. BLOCK: .. STATEMENT: .. E: .. : the first token with which no PROGRAM goes on");
    for (String program : PROGRAMS) {
      String[] tokens = program.split(" ");
      StringBuilder head = new StringBuilder();
      for (int i = 0; i <= tokens.length; i++) {
        for (String t : TOKENS) Verdict.asJudged(head + t);
        for (String t : TOKENS) if (i < tokens.length) Verdict.asJudged(head + t + " " + rest(tokens, i));
        Verdict.asJudged(head.toString());
        if (i < tokens.length) head.append(tokens[i]).append(' ');
      }
    }
  }

  private static String rest(String[] tokens, int from) {
    StringBuilder all = new StringBuilder();
    for (int i = from; i < tokens.length; i++) all.append(tokens[i]).append(' ');
    return all.toString();
  }

  // ---- thirty within one another

  private static final String HEAD = "var a[1];proc f(x){}proc g(x,y){}proc main(){";
  // What opens a BLOCK: what stands ahead of its {, the {, and what stands behind the BLOCK's end.
  private static final String[][] BLOCKS = {{"if 1", "}"}, {"if 1{}else", "}"}, {"while 1", "}"}, {"try", "}when range{}"},
    {"try{}when range", "}"}, {"try{}when range{}when index", "}"}, {"if 1", "}else{}"}, {"try{}when index", "}when range{}"}};
  // What opens one within an E: what stands ahead of its sign, the sign, and what closes it.
  private static final String[][] PARTS = {{"", "(", ")"}, {"", "-", ""}, {"a", "[", "]"}, {"f", "(", ")"}, {"g", "(", ",0)"},
    {"g(0", ",", ")"}, {"1+", "(", ")"}, {"2*", "-", ""}, {"1<", "(", ")"}};

  /** A text of BLOCKS and of parts of an E within one another, with a mark at the last sign that opens one. */
  private static String nest(List<String[]> blocks, String[] statement, List<String[]> parts) {
    StringBuilder text = new StringBuilder(HEAD);
    StringBuilder tail = new StringBuilder();
    int mark = text.length() - 1;
    for (String[] b : blocks) {
      // Of else and when it is the BLOCK ahead that is the first so deep.
      mark = text.length() + (b[0] + "{").indexOf('{');
      text.append(b[0]).append("{");
      tail.insert(0, b[1]);
    }
    text.append(statement[0]);
    tail.insert(0, statement[1]);
    for (String[] p : parts) {
      boolean behindMinus = text.charAt(text.length() - 1) == '-';
      text.append(behindMinus ? p[0].replaceAll("[0-9][+*<]", "") : p[0]);
      // Of a second argument the call's ( is the sign.
      mark = p[1].equals(",") ? text.length() - 2 : text.length();
      text.append(p[1]);
      tail.insert(0, p[2]);
    }
    text.append(parts.isEmpty() && statement[0].isEmpty() ? "" : "0");
    text.insert(mark, "|");
    return text.append(tail).append("}").toString();
  }

  private static final String[][] STATEMENTS = {{"out ", ";"}, {"return ", ";"}, {"var b=", ";"}, {"a[0]=", ";"}, {"if ", "{}"},
    {"while ", "{}"}};

  private static <T> List<T> copies(T one, int n) {
    List<T> all = new ArrayList<>();
    for (int i = 0; i < n; i++) all.add(one);
    return all;
  }

  private static void fits(String marked) {
    Verdict.good(marked.replace("|", ""));
  }

  private static void alike() {
    Kit.sentence("BLOCKS, ( and [ of expressions .., and - ahead of an F are at most 30 within one another");
    String[] nothing = {"", ""};
    for (String[] b : BLOCKS) {
      fits(nest(copies(b, 29), nothing, List.of()));
      Verdict.marked(1, nest(copies(b, 30), nothing, List.of()));
    }
    for (String[] s : STATEMENTS) {
      for (String[] p : PARTS) {
        // A BLOCK behind the E of if and while is one itself, but none around that E.
        fits(nest(List.of(), s, copies(p, 29)));
        Verdict.marked(1, nest(List.of(), s, copies(p, 30)));
      }
    }
  }

  private static void mixed() {
    Random random = new Random(30);
    for (int turn = 0; turn < 600; turn++) {
      int many = random.nextInt(31);
      List<String[]> blocks = new ArrayList<>();
      for (int i = 0; i < many && i < 29; i++) blocks.add(BLOCKS[random.nextInt(BLOCKS.length)]);
      List<String[]> parts = new ArrayList<>();
      while (blocks.size() + parts.size() < 29) parts.add(PARTS[random.nextInt(PARTS.length)]);
      String[] out = {"out ", ";"};
      fits(nest(blocks, out, parts));
      parts.add(PARTS[random.nextInt(PARTS.length)]);
      Verdict.marked(1, nest(blocks, out, parts));
    }
  }

  private static void callsAndTargets() {
    Kit.sentence("(and of what stands on the left of a =, and of calls)");
    fits(nest(List.of(), new String[] {"a[", "]=1;"}, copies(PARTS[1], 28)));
    Verdict.marked(1, nest(List.of(), new String[] {"a[", "]=1;"}, copies(PARTS[1], 29)));
    fits(nest(List.of(), new String[] {"f(", ");"}, copies(PARTS[0], 28)));
    Verdict.marked(1, nest(List.of(), new String[] {"f(", ");"}, copies(PARTS[0], 29)));
    fits(nest(List.of(), new String[] {"g(0,", ");"}, copies(PARTS[2], 28)));
    Verdict.marked(1, nest(List.of(), new String[] {"g(0,", ");"}, copies(PARTS[2], 29)));
    String deep = Kit.times("if 1{", 28);
    String up = Kit.times("}", 28);
    Verdict.good(HEAD + deep + "a[0]=1;f(0);" + up + "}");
    String deeper = deep + "if 1{";
    Verdict.marked(1, HEAD + deeper + "a|[0]=1;" + up + "}}");
    Verdict.marked(1, HEAD + deeper + "f|(0);" + up + "}}");
    Verdict.marked(1, HEAD + deeper + "out a|[0];" + up + "}}");
    Verdict.marked(1, HEAD + deeper + "out f|(0);" + up + "}}");
    Verdict.marked(1, HEAD + deeper + "out |(0);" + up + "}}");
    Verdict.marked(1, HEAD + deeper + "out |-0;" + up + "}}");
    Verdict.marked(1, HEAD + deeper + "while 1|{}" + up + "}}");
    Verdict.marked(1, HEAD + deeper + "try|{}when range{}" + up + "}}");
    // All that opens none may stand there.
    Verdict.good(HEAD + deeper + "var b=1;b=2-1*3/4%5+in;out b;return b<2;raise range;" + up + "}}");
  }

  private static void besideOneAnother() {
    Kit.sentence("within one another: what has ended, and what stands beside, is not counted");
    String up = Kit.times("(", 29) + "1" + Kit.times(")", 29);
    Verdict.good(HEAD + "out " + up + "+" + up + "*" + up + "<" + up + ";}");
    Verdict.good(HEAD + "out " + Kit.times("-", 29) + "1-" + Kit.times("-", 29) + "1;}");
    Verdict.good(HEAD + "out g(" + up.substring(1, up.length() - 1) + "," + up.substring(1, up.length() - 1) + ");}");
    Verdict.good(HEAD + Kit.times("a[", 29) + "0" + Kit.times("]", 29) + "=" + up + ";}");
    Verdict.good(HEAD + "if " + up + "{" + Kit.times("if 1{", 28) + Kit.times("}", 29) + "}");
    Verdict.good(HEAD + "while " + up + "{}" + Kit.times("if 1{", 29) + Kit.times("}", 29) + "}");
    Verdict.good(HEAD + Kit.times("if 1{", 29) + Kit.times("}", 29) + Kit.times("while 1{", 29) + Kit.times("}", 29) + "}");
    Verdict.good(HEAD + "try{" + Kit.times("if 1{", 28) + Kit.times("}", 28) + "}when range{" + Kit.times("if 1{", 28)
        + Kit.times("}", 28) + "}when index{" + Kit.times("if 1{", 28) + Kit.times("}", 28) + "}}");
    Verdict.good(HEAD + "if 1{" + Kit.times("if 1{", 28) + Kit.times("}", 28) + "}else{" + Kit.times("if 1{", 28)
        + Kit.times("}", 28) + "}}");
    Verdict.good(HEAD + Kit.times("if 1{}", 100) + "out " + Kit.times("(1)+", 100) + Kit.times("-1*", 100) + "1;}");
    // A proc's BLOCK is the first one of its own; what tells parameters and arrays is none.
    Verdict.good("var b[1];proc f(x,y){" + Kit.times("if 1{", 29) + Kit.times("}", 29) + "}proc main(){" + Kit.times("if 1{", 29)
        + Kit.times("}", 29) + "}");
    Verdict.marked(1, "proc f(x,y){" + Kit.times("if 1{", 29) + Kit.times("}", 29) + "}proc main(){" + Kit.times("if 1{", 29)
        + "if 1|{}" + Kit.times("}", 29) + "}");
  }

  private static void farBeyond() {
    Kit.sentence("the 31st of those within one another, however many come");
    Verdict.marked(1, "proc main(){out " + Kit.times("(", 29) + "|" + Kit.times("(", 2900));
    Verdict.marked(1, "proc main(){out " + Kit.times("-", 29) + "|" + Kit.times("-", 2900));
    Verdict.marked(1, "proc main(){out " + Kit.times("a[", 29) + "a|[" + Kit.times("a[", 1400));
    Verdict.marked(1, "proc main(){" + Kit.times("if 1{", 29) + "if 1|{" + Kit.times("if 1{", 500));
    // A token that is wrong in itself, or may not stand there, is found ahead of the 31st.
    Verdict.marked(1, "proc main(){out " + Kit.times("(", 29) + "|." + Kit.times("(", 20));
    Verdict.marked(1, "proc main(){out " + Kit.times("(", 29) + "|)" + Kit.times("(", 20));
    Verdict.behind(1, "proc main(){out " + Kit.times("(", 29));
    Verdict.behind(1, "proc main(){" + Kit.times("if 1{", 29));
  }

  public static void main(String[] args) {
    goesOn();
    alike();
    mixed();
    callsAndTargets();
    besideOneAnother();
    farBeyond();
    Kit.finish();
  }
}
