import java.util.Random;

/** All promises: any calls with any arguments answer, none throws, and one that is refused changes nothing. */
final class AnyCallTest {
  private static final int[] EDGES = {0, 1, 2, 3, 7, 8, 12, 13, 14, 20, 199, 200, 211, 212, 499, 500, 4103, 4104, 5000, 5001, 8191,
    8192, 65280, 65535, -1, -2, Integer.MIN_VALUE, Integer.MAX_VALUE};
  private static final String[] TEXTS = {
    "proc main(){}", "var s; proc main(){var k=3; while k>0{s=s+k*k; k=k-1;} out s;}", "proc main(){while 1{out in;}}",
    "cond c; var a[9]; proc f(x) raises c{a[x]=x; if x>7{raise c;} return f(x+1);} proc main() raises c{f(0);}",
    "proc main(){out 1", "proc main(){f();}", "proc f(x){f();}", "var x;", "var a[0]; proc main(){}", "",
    "var a[500]; proc f(){f();} proc main(){f();}",
  };

  private static int any(Random random) {
    int kind = random.nextInt(4);
    if (kind == 0) return random.nextInt();
    return kind == 1 ? random.nextInt(40) : EDGES[random.nextInt(EDGES.length)];
  }

  private static long sum(GatedPile x) {
    long all = x.fault(0) * 31L + x.fault(1);
    for (int what = 0; what < 11; what++) all = all * 31 + x.count(what);
    for (int k = 0; k < 14; k++) all = all * 31 + x.look(k);
    for (int at = 0; at < 400; at++) all = all * 31 + x.memory(at) + x.word(at);
    for (int i = 0; i < 100; i++) all = all * 31 + x.order(i, 0) + x.output(i);
    for (int k = 0; k < 4104; k += 97) all = all * 31 + x.wire(k);
    return all;
  }

  /** One call; whether it was one that was refused. */
  private static boolean refused(GatedPile x, Random random) {
    int a = any(random);
    int b = any(random);
    switch (random.nextInt(19)) {
      case 0: return x.feed(a, b, any(random), any(random), any(random)) == -1;
      case 1: return x.end(a) == -1;
      case 2: x.compile(); return false;
      case 3: x.fault(a); return true;
      case 4: x.count(a); return true;
      case 5: x.order(a, b); return true;
      case 6: x.proc(a, b); return true;
      case 7: x.word(a); return true;
      case 8: x.net(a, b); return true;
      case 9: return !x.input(a);
      case 10: if (random.nextInt(4) == 0) x.clear(); return false;
      case 11: return !x.reset();
      case 12: case 13: return x.clock(a) == -1;
      case 14: return x.run() == -1;
      case 15: x.wire(a); return true;
      case 16: x.look(a); return true;
      case 17: x.memory(a); return true;
      default: x.output(a); return true;
    }
  }

  private static void calls(long seed) {
    Random random = new Random(seed);
    GatedPile x = new GatedPile();
    for (int i = 0; i < 512; i++) {
      if (random.nextInt(40) == 0) {
        x.end(0);
        Kit.feed(x, TEXTS[random.nextInt(TEXTS.length)]);
      }
      long before = sum(x);
      if (refused(x, random)) Kit.due("what a refused call changed, " + seed + ", " + i, sum(x) - before, 0);
    }
  }

  /** Bytes of any kind, most of them such as texts have. */
  private static void bytes(long seed) {
    Random random = new Random(seed);
    String some = "(){}[];,=+-*/%<>! \n#azbc0129";
    String[] parts = {"var ", "cond ", "proc ", " raises ", "if ", " else ", "while ", "try ", " when ", "raise ", "return ", "out ", " in ", "main"};
    StringBuilder text = new StringBuilder(random.nextBoolean() ? "proc main(){" : "");
    int most = random.nextInt(3000);
    while (text.length() < most) {
      if (random.nextInt(3) == 0) text.append(parts[random.nextInt(parts.length)]);
      else text.append(random.nextInt(60) == 0 ? (char) random.nextInt(256) : some.charAt(random.nextInt(some.length())));
    }
    if (text.length() > 3000) text.setLength(3000);
    GatedPile x = new GatedPile();
    Kit.feed(x, text.toString());
    x.compile();
    Judge j = new Judge(text.toString());
    Kit.due("kind of bytes " + seed, x.fault(0), j.kind);
    Kit.due("place of bytes " + seed, x.fault(1), j.place);
  }

  public static void main(String[] args) {
    for (long seed = 0; seed < 60; seed++) calls(seed);
    for (long seed = 0; seed < 3000; seed++) bytes(seed);
    Kit.finish();
  }
}
