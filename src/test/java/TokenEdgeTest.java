import java.math.BigInteger;

/** Part II, edges of tokens: each sentence with the last case on this side of its boundary and the first beyond it. */
final class TokenEdgeTest {
  private static final String[] KEYS = {"var", "cond", "proc", "raises", "if", "else", "while", "try", "when", "raise",
    "return", "out", "in"};

  private static boolean letter(int b) {
    return b >= 97 && b <= 122;
  }

  private static boolean digit(int b) {
    return b >= 48 && b <= 57;
  }

  private static boolean blank(int b) {
    return b == 9 || b == 10 || b == 13 || b == 32;
  }

  private static void firstByte() {
    Kit.sentence("a WORD: a small letter");
    for (int b = 0; b < 256; b++) {
      String text = "proc main(){var " + (char) b + "=1;}";
      if (letter(b)) Verdict.good(text);
      else if (b == '#') Verdict.behind(1, text);
      else Verdict.faulty(text, 1, blank(b) ? 17 : 16);
    }
  }

  private static void laterBytes() {
    Kit.sentence("then small letters and digits, as many as stand there");
    for (int b = 0; b < 256; b++) {
      String text = "proc main(){var a" + (char) b + "=1;}";
      if (letter(b) || digit(b) || blank(b)) Verdict.good(text);
      else if (b == '#') Verdict.behind(1, text);
      else Verdict.faulty(text, 1, 17);
    }
    for (int b = 0; b < 256; b++) {
      // The same WORD only if this byte is one of it.
      String text = "var a" + (char) b + "c;proc main(){a" + (char) b + "c=1;}";
      if (letter(b) || digit(b)) Verdict.good(text);
    }
    for (String k : KEYS) {
      Verdict.good("var " + k + "a;proc main(){out " + k + "a;}");
      Verdict.good("var " + k + "0;proc main(){out " + k + "0;}");
      Verdict.good("var a" + k + ";proc main(){out a" + k + ";}");
    }
    Verdict.marked(2, "var ab;proc main(){out |a;}");
    Verdict.marked(2, "var a1;proc main(){out |a;}");
    Verdict.marked(2, "var a;proc main(){out |a0;}");
    Verdict.marked(2, "var a1;proc main(){out |a2;}");
    Verdict.marked(2, "var a0;proc main(){out |aa;}");
    Verdict.marked(1, "proc main(){out1|;}");
  }

  private static void twelve() {
    Kit.sentence("a WORD: .. 12 at most; a fault at a WORD's 13th byte");
    Verdict.good("var abcdefghijkl;proc main(){out abcdefghijkl;}");
    Verdict.marked(1, "var abcdefghijkl|m;proc main(){}");
    Verdict.good("var a23456789012;proc main(){out a23456789012;}");
    Verdict.marked(1, "var a23456789012|3;proc main(){}");
    Verdict.good("var zzzzzzzzzzzz;var z99999999999;proc main(){out zzzzzzzzzzzz+z99999999999;}");
    Verdict.good("proc main(){out 1+abcdefghijkl+2;}var abcdefghijkl;");
    Verdict.marked(1, "var abcdefghijkl|mnopqrstuvw");
    Verdict.marked(1, "var " + Kit.times("a", 12) + "|" + Kit.times("a", 2984));
    Verdict.behind(1, "var " + Kit.times("a", 12));
    // All twelve bytes tell a WORD from others.
    Verdict.good("var abcdefghijkl;var abcdefghijkm;var bbcdefghijkl;proc main(){out abcdefghijkm+bbcdefghijkl;}");
    Verdict.marked(2, "var abcdefghijkl;proc main(){out |abcdefghijkm;}");
    Verdict.marked(2, "var abcdefghijkl;proc main(){out |bbcdefghijkl;}");
    Verdict.marked(2, "var abcdefghijkl;proc main(){out |abcdefghijk;}");
    Kit.sentence("what is wrong with a token in itself comes ahead of whether it may stand there");
    Verdict.marked(1, "abcdefghijkl|m");
    Verdict.marked(1, "|abcdefghijkl");
    Verdict.marked(1, "proc main(){}abcdefghijkl|m");
    Verdict.marked(1, "proc main(){out 1 abcdefghijkl|m;}");
    Verdict.marked(1, "proc main(){out 1 |abcdefghijkl;}");
    Verdict.marked(1, "var 1|".replace("1|", "|1"));
    Verdict.marked(1, "var |32768;");
    Verdict.marked(1, "var |32767;");
    Verdict.marked(1, "|99999");
    // An earlier token with which no PROGRAM goes on is the first all the same.
    Verdict.marked(1, "|x abcdefghijklm");
    Verdict.marked(1, "var |; abcdefghijklm");
    Verdict.marked(1, "var |; 32768");
    Verdict.marked(1, "var |; .");
    Verdict.marked(1, "var a; |. var ;");
  }

  /** So many conditions are LARGE; a NAME that were taken for another would be a FAULT that comes ahead. */
  private static void allDiffer(java.util.Set<String> names) {
    java.util.List<String> left = new java.util.ArrayList<>(names);
    java.util.Collections.shuffle(left, new java.util.Random(left.size()));
    StringBuilder text = new StringBuilder("proc main(){}cond z");
    for (String n : left) {
      if (text.length() + n.length() + 2 > 3000) break;
      if (!n.equals("z")) text.append(",").append(n);
    }
    Verdict.behind(5, text.append(";").toString());
  }

  private static void spellings() {
    Kit.sentence("WORDS that differ in a byte, or in their length, are different NAMES");
    java.util.Set<String> keys = new java.util.HashSet<>(java.util.Arrays.asList(KEYS));
    java.util.Set<String> names = new java.util.TreeSet<>();
    String first = "abcdefghijklmnopqrstuvwxyz";
    String later = first + "0123456789";
    for (char a : first.toCharArray()) {
      names.add("" + a);
      for (char b : later.toCharArray()) if (!keys.contains("" + a + b)) names.add("" + a + b);
    }
    allDiffer(names);
    java.util.Random random = new java.util.Random(12);
    for (int turn = 0; turn < 60; turn++) {
      names.clear();
      int longest = 3 + turn % 10;
      // Many that are alike but for a byte or two.
      StringBuilder one = new StringBuilder();
      for (int i = 0; i < longest; i++) one.append((i == 0 ? first : later).charAt(random.nextInt(i == 0 ? 26 : 36)));
      for (int i = 0; i < 1000; i++) {
        StringBuilder n = new StringBuilder(one);
        for (int j = 0; j < 2; j++) {
          int at = random.nextInt(longest);
          n.setCharAt(at, (at == 0 ? first : later).charAt(random.nextInt(at == 0 ? 26 : 36)));
        }
        n.setLength(longest - random.nextInt(3));
        String name = n.toString();
        if (!keys.contains(name) && !java.util.Set.of("main", "range", "index", "divide", "empty", "error").contains(name)) names.add(name);
      }
      allDiffer(names);
    }
  }

  private static void numbers() {
    Kit.sentence("a NUMBER: digits, as many as stand there, at most 32767");
    int[] fine = {0, 1, 9, 10, 255, 256, 9999, 32760, 32766, 32767};
    for (int v : fine) {
      GatedPile x = Kit.compiled("proc main(){out " + v + ";}");
      Kit.due("v of PUSH " + v, x.order(1, 1), v);
      x = Kit.compiled("proc main(){out 000" + v + ";}");
      Kit.due("v of PUSH 000" + v, x.order(1, 1), v);
    }
    BigInteger large = BigInteger.valueOf(32768);
    for (int i = 0; i < 64; i++) {
      Verdict.marked(1, "proc main(){out |" + large + ";}");
      Verdict.marked(1, "proc main(){out |" + large.add(BigInteger.ONE) + ";}");
      Verdict.marked(1, "proc main(){out |" + large.subtract(BigInteger.ONE).max(BigInteger.valueOf(32768)) + ";}");
      large = large.add(large);
    }
    for (String v : new String[] {"32769", "32770", "32777", "32800", "33000", "40000", "99999", "327670", "132767"}) {
      Verdict.marked(1, "proc main(){out |" + v + ";}");
      Verdict.marked(1, "var a[|" + v + "];proc main(){}");
    }
    // At the first byte of it, also when the byte that is too much comes late.
    String zeros = Kit.times("0", 2900);
    Verdict.good("proc main(){out " + zeros + "32767;}");
    Verdict.marked(1, "proc main(){out |" + zeros + "32768;}");
    Verdict.marked(1, "proc main(){out |" + Kit.times("9", 2900) + ";}");
    for (int b = 0; b < 256; b++) {
      String text = "proc main(){out 1" + (char) b + ";}";
      if (digit(b) || blank(b)) Verdict.good(text);
      else if (b == '#') Verdict.behind(1, text);
      else if ("+-*/%<>".indexOf(b) >= 0) Verdict.faulty(text, 1, 18);
      else if (b == ';') Verdict.faulty(text, 1, 18);
      else Verdict.faulty(text, 1, 17);
    }
  }

  private static void signs() {
    Kit.sentence("the signs .. and == != <= >= (two that stand together are one)");
    String[] one = {"<", ">", "<=", ">=", "==", "!="};
    for (String c : one) {
      Verdict.good("proc main(){out 1" + c + "2;}");
      Verdict.good("proc main(){out 1 " + c + " 2;}");
      Verdict.good("proc main(){out 1" + c + "-2;}");
    }
    Verdict.marked(1, "proc main(){out 1|= =2;}");
    Verdict.marked(1, "proc main(){out 1|! =2;}");
    Verdict.marked(1, "proc main(){out 1< |=2;}");
    Verdict.marked(1, "proc main(){out 1> |=2;}");
    Verdict.marked(1, "proc main(){out 1=#\n=2;}".replace("1=", "1|="));
    Verdict.marked(1, "proc main(){out 1==|=2;}");
    Verdict.marked(1, "proc main(){out 1<=|=2;}");
    Verdict.marked(1, "proc main(){out 1<|>2;}");
    Verdict.marked(1, "proc main(){out 1>|<2;}");
    Verdict.marked(1, "proc main(){out 1<|<2;}");
    Verdict.marked(1, "proc main(){out 1>|>=2;}");
    Verdict.marked(1, "proc main(){out 1|=<2;}");
    Verdict.marked(1, "proc main(){out 1|=>2;}");
    Verdict.marked(1, "proc main(){out 1!=|!=2;}");
    Verdict.marked(1, "proc main(){out 1|!2;}");
    Verdict.marked(1, "proc main(){var x|==1;}");
    Verdict.marked(1, "proc main(){var x=|=1;}".replace("=|=", "|=="));
    Verdict.marked(1, "proc main(){out 1|!");
    Verdict.behind(1, "proc main(){out 1<");
    Verdict.behind(1, "proc main(){out 1!=");
    // The last byte of the tape has no other behind it, whatever stood there.
    GatedPile x = new GatedPile();
    Kit.feed(x, "proc main(){out 1!=2;}");
    x.end(18);
    x.compile();
    Kit.due("place of a ! whose = was cut off", x.fault(1), 17);
    Kit.feed(x, "proc main(){out 1<=2;}");
    x.end(18);
    x.compile();
    Kit.due("place behind a < whose = was cut off", x.fault(1), 18);
  }

  private static void blanks() {
    Kit.sentence("BLANKS: bytes 9, 10, 13, 32");
    for (int b = 0; b < 256; b++) {
      String text = "proc main()" + (char) b + "{}";
      if (blank(b)) Verdict.good(text);
      else if (b == '#') Verdict.behind(1, text);
      else Verdict.faulty(text, 1, b == '{' ? 12 : 11);
    }
    Verdict.good("\t\n\r proc\tmain\n(\r)\t\n\r {\t}\n\r\t ");
    Verdict.marked(1, "proc main(){ou |t 1;}".replace("ou |t", "ou |t"));
    Verdict.marked(1, "pro|c main(){}".replace("pro|c", "|pro c"));
    Verdict.marked(1, "proc main(){out 1 |2;}");
    Kit.sentence("what stands from a # up to the next byte 10 or the end");
    for (int b = 0; b < 256; b++) {
      if (b != 10) Verdict.good("#" + (char) b + "var;(\nproc main(){}");
    }
    Verdict.marked(1, "#\n|(\nproc main(){}");
    Verdict.marked(1, "#\r\n|(\nproc main(){}");
    Verdict.good("##\n###\n#\n\n#\nproc#\nmain#x\n(#\n)#\n{#}\n}#\n");
    Verdict.good("proc main(){}#");
    Verdict.good("proc main(){}#}");
    Verdict.good("proc main(){}" + "#" + Kit.times("}", 2986));
    Verdict.behind(1, "proc main(){#}");
    Verdict.behind(1, "proc main(){#}\n");
    Verdict.behind(1, "proc main(){#\r}");
    Verdict.marked(1, "proc ma#\n|in(){}");
    Verdict.marked(1, "proc main(){out 1#\n|2;}");
    Verdict.behind(4, "#proc main(){}");
    Verdict.behind(4, "#");
  }

  private static void keys() {
    Kit.sentence("KEYS are var cond proc raises if else while try when raise return out in; other WORDS are NAMES");
    for (String k : KEYS) {
      Verdict.marked(1, "var |" + k + ";proc main(){}");
      Verdict.marked(1, "cond |" + k + ";proc main(){}");
      Verdict.marked(1, "proc |" + k + "(){}");
      Verdict.marked(1, "proc main(|" + k + "){}");
      Verdict.marked(1, "proc main() raises |" + k + "{}");
      Verdict.marked(1, "proc main(){var |" + k + "=1;}");
      Verdict.marked(1, "proc main(){raise |" + k + ";}");
      Verdict.marked(1, "proc main(){try{}when |" + k + "{}}");
      if (!k.equals("in")) Verdict.marked(1, "proc main(){out |" + k + ";}");
      Verdict.good("var " + k.substring(1) + "x;proc main(){out " + k.substring(1) + "x;}");
      if (k.length() > 2 && !k.equals("raises")) {
        String less = k.substring(0, k.length() - 1);
        Verdict.good("var " + less + ";proc main(){out " + less + ";}");
      }
    }
    Verdict.good("proc main(){out in;}");
    for (String name : new String[] {"main2", "raised", "outs", "int", "ins", "elseif", "end", "not", "and", "a"}) {
      Verdict.good("var " + name + ";proc main(){out " + name + ";}");
    }
  }

  private static void places() {
    Kit.sentence("MALFORMED: at the first byte of the first token .. (the text's length, if more must come)");
    Verdict.marked(1, "var  \n |; proc main(){}");
    Verdict.marked(1, "var a #x\n\n |b; proc main(){}");
    Verdict.behind(1, "var");
    Verdict.behind(1, "var ");
    Verdict.behind(1, "var \n\n");
    Verdict.behind(1, "var #x");
    Verdict.behind(1, "proc main(){" + Kit.times(" ", 2988));
    Verdict.behind(1, "proc main(){}var a" + Kit.times(" ", 2982));
    Verdict.marked(1, "proc main(){}" + Kit.times(" ", 2986) + "|}");
    Verdict.good("proc main(){}" + Kit.times(" ", 2987));
    Verdict.marked(1, Kit.times(" ", 2999) + "|x");
  }

  public static void main(String[] args) {
    firstByte();
    laterBytes();
    twelve();
    spellings();
    numbers();
    signs();
    blanks();
    keys();
    places();
    Kit.finish();
  }
}
