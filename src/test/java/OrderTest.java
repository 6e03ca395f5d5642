/** Promises 6, 7 and 8: orders and procs of programs written down here, and of random ones beside the Model's. */
final class OrderTest {
  private static void orders(String text, int[][] want) {
    GatedPile x = Kit.compiled(text);
    Kit.due("orders of " + text, x.count(2), want.length);
    for (int i = 0; i < want.length; i++) {
      for (int what = 0; what < 3; what++) {
        Kit.due("order(" + i + ", " + what + ") of " + text, x.order(i, what), want[i][what]);
      }
    }
  }

  private static void written() {
    orders("proc main(){}", new int[][] {{0, 0, -1}, {1, 0, -1}, {22, 0, -1}, {26, 0, -1}});
    orders("var a; var b[3]; proc main(){a=-7; b[1]=b[2]+a;}", new int[][] {
      {0, 0, -1}, {1, 7, -1}, {13, 0, 12}, {5, 0, -1}, {1, 1, -1}, {1, 2, -1}, {6, 1, 12}, {4, 0, -1}, {8, 0, 12},
      {7, 1, 12}, {1, 0, -1}, {22, 0, -1}, {26, 0, -1}});
    orders("proc main(){if 1<2{out 1;}else{out 2;}}", new int[][] {
      {0, 0, -1}, {1, 1, -1}, {1, 2, -1}, {14, 0, -1}, {16, 0, 8}, {1, 1, -1}, {20, 0, -1}, {15, 0, 10}, {1, 2, -1},
      {20, 0, -1}, {1, 0, -1}, {22, 0, -1}, {26, 0, -1}});
    orders("cond c; proc main(){try{try{raise c;}when range{out 1;}when c{raise error;}}when error{}}", new int[][] {
      {0, 0, -1}, {21, 6, 3}, {15, 0, 12}, {23, 0, -1}, {24, 1, 7}, {24, 6, 10}, {25, 0, 13}, {1, 1, -1}, {20, 0, -1},
      {15, 0, 12}, {21, 5, 13}, {15, 0, 12}, {15, 0, 17}, {23, 0, -1}, {24, 5, 16}, {25, 0, 19}, {15, 0, 17},
      {1, 0, -1}, {22, 0, -1}, {26, 0, -1}});
    orders("proc main(){while in{f(1,in);}} proc f(x,y){var z=x; return y%z;}", new int[][] {
      {0, 0, -1}, {19, 0, 10}, {16, 0, 8}, {1, 1, -1}, {19, 0, 10}, {17, 1, 10}, {18, 0, -1}, {15, 0, 1}, {1, 0, -1},
      {22, 0, -1}, {26, 0, -1}, {0, 1, -1}, {2, 0, -1}, {3, 2, -1}, {2, 1, -1}, {2, 2, -1}, {12, 0, 20}, {22, 1, -1},
      {1, 0, -1}, {22, 1, -1}, {26, 1, -1}});
    String[] signs = {"<", ">", "<=", ">=", "==", "!="};
    for (int c = 0; c < 6; c++) {
      GatedPile x = Kit.compiled("proc main(){out 1" + signs[c] + "2;}");
      Kit.due("COMPARE of " + signs[c], x.order(3, 0), 14);
      Kit.due("c of " + signs[c], x.order(3, 1), c);
    }
  }

  /** LOCALS whose BLOCK has ended make room for others. */
  private static void frames() {
    GatedPile x = Kit.compiled("proc main(){var a=1; if a{var b=2; var c=3;} else {var d=4;} var e=a+(a+(a+a));}"
        + "proc f(p,q){f(p,f(q,f(p,q)));}");
    int[] puts = {0, 1, 2, 1, 1};
    int seen = 0;
    for (int i = 0; i < x.count(2); i++) {
      if (x.order(i, 0) == 3) Kit.due("PUT number " + seen, x.order(i, 1), puts[seen++]);
    }
    Kit.due("PUTs", seen, 5);
    int[][] want = {{0, 5, 12, 0}, {2, 4, 9, x.proc(1, 3)}};
    for (int p = 0; p < 2; p++) {
      for (int what = 0; what < 4; what++) Kit.due("proc(" + p + ", " + what + ")", x.proc(p, what), want[p][what]);
    }
    Kit.due("proc 1's ENTER", x.order(x.proc(1, 3), 0), 0);
    Kit.due("proc 1's ENTER's p", x.order(x.proc(1, 3), 1), 1);
  }

  private static void edges() {
    GatedPile x = new GatedPile();
    for (int what = 0; what < 5; what++) Kit.due("count(" + what + ") without CODE", x.count(what), 0);
    Kit.due("order without CODE", x.order(0, 0), -1);
    Kit.due("proc without CODE", x.proc(0, 0), -1);
    x = Kit.compiled("cond a,b; var v; var w[7]; proc main(){} proc g(x){return x;}");
    int[] counts = {2, 7, 10, x.count(3), 8};
    for (int what = 0; what < 5; what++) Kit.due("count(" + what + ")", x.count(what), counts[what]);
    int[] others = {-1, 11, Integer.MIN_VALUE, Integer.MAX_VALUE};
    for (int what : others) Kit.due("count(" + what + ")", x.count(what), -1);
    for (int i : new int[] {-1, 10, Integer.MIN_VALUE, Integer.MAX_VALUE}) {
      for (int what = 0; what < 4; what++) Kit.due("order(" + i + ", " + what + ")", x.order(i, what), -1);
    }
    for (int p : new int[] {-1, 2, Integer.MIN_VALUE, Integer.MAX_VALUE}) {
      for (int what = 0; what < 4; what++) Kit.due("proc(" + p + ", " + what + ")", x.proc(p, what), -1);
    }
    for (int what : new int[] {-1, 4, Integer.MIN_VALUE, Integer.MAX_VALUE}) {
      Kit.due("order(0, " + what + ")", x.order(0, what), -1);
      Kit.due("proc(0, " + what + ")", x.proc(0, what), -1);
    }
    Kit.due("the first order's place", x.order(0, 3), 82);
  }

  private static void compare(Model m, long seed) {
    GatedPile x = Kit.compiled(m, seed);
    if (x == null) return;
    Kit.due("procs " + seed, x.count(0), m.procs.size());
    Kit.due("conditions " + seed, x.count(1), m.conditions.size());
    Kit.due("orders " + seed, x.count(2), m.orders.size());
    int words = 0;
    for (int n : m.lengths) words += n;
    Kit.due("GLOBALS " + seed, x.count(4), words);
    for (int i = 0; i < m.orders.size(); i++) {
      Model.Order o = m.orders.get(i);
      Kit.due("number of " + i + " of " + seed, x.order(i, 0), o.number);
      Kit.due("operand of " + i + " of " + seed, x.order(i, 1), o.operand);
      Kit.due("link of " + i + " of " + seed, x.order(i, 2), o.link == null ? -1 : o.link[0]);
    }
    for (int p = 0; p < m.procs.size(); p++) {
      Model.Proc proc = m.procs.get(p);
      Kit.due("parameters of " + p + " of " + seed, x.proc(p, 0), proc.parameters.size());
      Kit.due("SIZE of " + p + " of " + seed, x.proc(p, 1), proc.size);
      Kit.due("WANT of " + p + " of " + seed, x.proc(p, 2), proc.want);
      Kit.due("ENTER of " + p + " of " + seed, x.proc(p, 3), proc.enter);
    }
  }

  public static void main(String[] args) {
    written();
    frames();
    edges();
    for (long seed = 0; seed < 400; seed++) compare(new Model(seed, 20 + (int) (seed % 7) * 60, seed % 2 == 0), seed);
    Kit.finish();
  }
}
