import java.util.ArrayList;
import java.util.List;

/** LEAST for all prices of the five KINDS, against all sets of SAYINGS that tell one STORY. */
public final class LeastTest {
  private static final int STORY = 71;

  public static void main(String[] args) {
    List<int[]> ways = ways(new PerfectFerried());
    int wrong = 0;
    PerfectFerried x = null;
    for (int prices = 0; prices < 100000; prices++) {
      if (prices % 50 == 0) x = new PerfectFerried();
      x.back();
      x.story(STORY);
      int bits = 0;
      int[] price = new int[5];
      int rest = prices;
      for (int kind = 0; kind < 5; kind++) {
        price[kind] = rest % 10;
        rest /= 10;
        if (price[kind] > 0) bits = bits << 1 | 1;
        if (price[kind] > 0) x.form(kind, price[kind]);
      }
      int[] due = best(ways, price);
      int length = x.least(bits, 0, false);
      int sayings = x.least(bits, 0, true);
      if (length != due[0] || sayings != due[1]) {
        wrong++;
        System.out.println("prices " + prices + ": " + length + ", " + sayings + ", due are " + due[0] + ", " + due[1]);
      }
    }
    System.out.println(wrong == 0 ? "all prices are as due" : wrong + " prices are not as due");
    if (wrong != 0) System.exit(1);
  }

  private static int[] best(List<int[]> ways, int[] price) {
    int[] best = {-1, -1};
    for (int[] way : ways) {
      int length = 0;
      int sayings = 0;
      boolean can = true;
      for (int kind = 0; kind < 5; kind++) {
        can &= way[kind] == 0 || price[kind] > 0;
        length += way[kind] * price[kind];
        sayings += way[kind];
      }
      if (can && (best[0] < 0 || length < best[0] || length == best[0] && sayings < best[1])) best = new int[] {length, sayings};
    }
    return best;
  }

  /** How many SAYINGS of each KIND a set has by which no other ORDER is left. */
  private static List<int[]> ways(PerfectFerried x) {
    List<int[]> sayings = new ArrayList<>();
    for (int kind = 0; kind < 5; kind++)
      for (int a = 0; a < 5; a++)
        for (int b = 0; b < 5; b++)
          if (x.holds(STORY, kind, a, b) && !(kind == 4 && a > b)) sayings.add(new int[] {kind, a, b});
    int n = sayings.size();
    long[][] left = new long[2][1 << n];
    left[0][0] = (1L << 60) - 1;
    left[1][0] = (1L << 60) - 1;
    boolean[] found = new boolean[1 << 15];
    List<int[]> ways = new ArrayList<>();
    for (int set = 1; set < 1 << n; set++) {
      int[] last = sayings.get(Integer.numberOfTrailingZeros(set));
      int rest = set & set - 1;
      for (int half = 0; half < 2; half++) {
        left[half][set] = rest == 0 ? fits(last, half) : left[half][rest] & left[half][set ^ rest];
      }
      if (Long.bitCount(left[0][set]) + Long.bitCount(left[1][set]) != 1) continue;
      int[] way = new int[5];
      for (int i = 0; i < n; i++) if ((set >> i & 1) == 1) way[sayings.get(i)[0]]++;
      int key = (((Math.min(way[0], 7) * 8 + way[1]) * 8 + way[2]) * 8 + way[3]) * 8 + way[4];
      if (!found[key]) {
        found[key] = true;
        ways.add(way);
      }
    }
    return ways;
  }

  private static long fits(int[] saying, int half) {
    PerfectFerried x = new PerfectFerried();
    long bits = 0;
    for (int i = 0; i < 60; i++) if (x.holds(half * 60 + i, saying[0], saying[1], saying[2])) bits |= 1L << i;
    return bits;
  }
}
