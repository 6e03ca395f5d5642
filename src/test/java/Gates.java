/** A processor clocked gate by gate over the net that net() tells, beside a memory (Part VI). */
final class Gates {
  final int[] left;
  final int[] right;
  final int[] value;
  final int[] memory = new int[8192];
  int[] input = new int[0];
  int taken;
  final java.util.List<Integer> output = new java.util.ArrayList<>();

  Gates(GatedPile x) {
    int all = 212 + x.count(5);
    left = new int[all];
    right = new int[all];
    value = new int[all];
    for (int w = 2; w < all; w++) {
      left[w] = x.net(w, 0);
      right[w] = x.net(w, 1);
    }
    settle();
  }

  int group(int first, int bits) {
    int word = 0;
    for (int i = 0; i < bits; i++) word |= value[first + i] << i;
    return word;
  }

  int data() {
    int mar = group(34, 16);
    if (mar < 8192) return memory[mar];
    if (mar == 65280) return taken < input.length ? input[taken] & 65535 : 0;
    return mar == 65281 ? input.length - taken : 0;
  }

  /** All wires as they follow from the flip-flops and the memory. */
  void settle() {
    int data = data();
    value[0] = 0;
    value[1] = 1;
    for (int i = 0; i < 16; i++) value[196 + i] = data >> i & 1;
    for (int w = 212; w < value.length; w++) value[w] = 1 - (value[left[w]] & value[right[w]]);
  }

  boolean halted() {
    return group(66, 2) == 1 && group(30, 4) == 15;
  }

  void clock() {
    int state = group(66, 2);
    int mar = group(34, 16);
    int[] next = new int[196];
    for (int f = 2; f < 196; f++) next[f] = value[left[f]];
    if (state == 2 && mar == 65280 && taken < input.length) taken++;
    if (state == 3 && mar < 8192) memory[mar] = group(50, 16);
    if (state == 3 && mar == 65280) output.add((int) (short) group(50, 16));
    System.arraycopy(next, 2, value, 2, 194);
    settle();
  }
}
