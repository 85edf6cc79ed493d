/** Promises 15 to 17: spot, cheapest, take. */
public final class SpotsTest {
  private static final Due due = new Due();

  public static void main(String[] args) {
    spot();
    cheapest();
    cheapestOfLikePrice();
    cheapestOfLikeCount();
    cheapestMayTakeAll();
    take();
    takeRefused();
    due.end();
  }

  private static GripBench spots(GripBench x, int... told) {
    for (int i = 0; i < told.length; i += 3) x.spot(told[i], told[i + 1], told[i + 2]);
    return x;
  }

  private static void spot() {
    due.run("spot");
    GripBench x = new GripBench();
    int[][] bad = {{-1, 0, 0}, {3, 0, 0}, {0, -1, 0}, {0, 9, 0}, {0, 0, -1}, {0, 0, 1001}};
    for (int[] b : bad) due.is("spot of " + b[0] + ", " + b[1] + ", " + b[2], x.spot(b[0], b[1], b[2]), -2);
    due.is("count(3)", x.count(3), 0);
    for (int i = 1; i <= 7; i++) due.is("spot", x.spot(2, i % 2 * 8, i % 2 * 1000), i);
    due.is("spot(0, 0, 0)", x.spot(0, 0, 0), -4);
    due.is("spot(0, 0, 1001) is BAD ahead of FULL", x.spot(0, 0, 1001), -2);
    due.is("count(3)", x.count(3), 7);
    due.is("no fingers", x.count(1), 0);
  }

  private static void cheapest() {
    due.run("cheapest");
    GripBench x = Told.square();
    due.is("no spots", x.cheapest(), -1);
    spots(x, 0, 2, 5, 1, 6, 5, 2, 2, 5);
    due.is("three", x.cheapest(), -1);
    spots(x, 3, 6, 5);
    due.is("four", x.cheapest(), 15);
    spots(x, 0, 1, 4);
    due.is("a cheaper one", x.cheapest(), 30);
    x.friction(16);
    due.is("with friction", x.cheapest(), cheapestByHand(x));
    due.is("fingers stay none", x.count(1), 0);
    // A set of more that costs less.
    x = spots(Told.square(), 0, 4, 10, 2, 4, 10, 0, 2, 1, 1, 6, 1, 2, 2, 1, 3, 6, 1);
    x.friction(1);
    due.is("more for less", x.cheapest(), 4 + 8 + 16 + 32);
  }

  /** All sets, told as fingers to another bench of the square with the first five spots of cheapest(). */
  private static int cheapestByHand(GripBench x) {
    int[][] spots = {{0, 2, 5}, {1, 6, 5}, {2, 2, 5}, {3, 6, 5}, {0, 1, 4}};
    int best = -1;
    int bestPrice = 0;
    for (int set = 1; set < 32; set++) {
      GripBench y = Told.square();
      y.friction(x.count(2));
      int price = 0;
      for (int i = 0; i < 5; i++) {
        if ((set >> i & 1) == 0) continue;
        y.finger(spots[i][0], spots[i][1]);
        price += spots[i][2];
      }
      if (y.holds() == 0) continue;
      boolean fewer = Integer.bitCount(set) < Integer.bitCount(best);
      if (best < 0 || price < bestPrice || price == bestPrice && fewer) {
        best = set;
        bestPrice = price;
      }
    }
    return best;
  }

  private static void cheapestOfLikePrice() {
    due.run("cheapest of like price: the fewest");
    int[] four = {0, 2, 5, 1, 6, 5, 2, 2, 5, 3, 6, 5};
    GripBench x = spots(spots(Told.square(), four), 0, 4, 10, 2, 4, 10);
    x.friction(1);
    due.is("two behind four", x.cheapest(), 16 + 32);
    x = spots(spots(Told.square(), 0, 4, 10, 2, 4, 10), four);
    x.friction(1);
    due.is("two ahead of four", x.cheapest(), 1 + 2);
    x = spots(Told.square(), 0, 4, 0, 2, 4, 0, 1, 4, 0, 3, 4, 0);
    x.friction(1);
    due.is("all for nothing", x.cheapest(), 3);
    x = spots(Told.square(), 1, 0, 0, 0, 4, 0, 2, 4, 0);
    x.friction(1);
    due.is("none for nothing too many", x.cheapest(), 6);
  }

  private static void cheapestOfLikeCount() {
    due.run("cheapest of like price and count: the least as bits");
    GripBench x = spots(Told.square(), 1, 4, 3, 0, 4, 7, 2, 4, 3, 3, 4, 7);
    x.friction(1);
    due.is("1, 2 are cheaper than 0, 3", x.cheapest(), 2 + 4);
    x = spots(Told.square(), 1, 4, 5, 0, 4, 5, 3, 4, 5, 2, 4, 5);
    x.friction(1);
    due.is("0, 2 ahead of 1, 3", x.cheapest(), 1 + 4);
    x = spots(Told.square(), 0, 4, 5, 2, 4, 5, 2, 4, 5, 0, 4, 5);
    x.friction(1);
    due.is("the first two", x.cheapest(), 1 + 2);
  }

  private static void cheapestMayTakeAll() {
    due.run("cheapest of seven");
    GripBench x = spots(Told.square(), 0, 1, 1000, 0, 2, 1000, 0, 3, 1000, 1, 6, 1000, 2, 2, 1000, 2, 6, 1000);
    due.is("no holding three sides", x.cheapest(), -1);
    spots(x, 3, 6, 1000);
    due.is("the seventh", x.cheapest(), 64 + 16 + 8 + 1);
    due.is("take()", x.take(), 4000);
  }

  private static void take() {
    due.run("take");
    GripBench x = spots(Told.square(), 3, 6, 900, 2, 2, 80, 0, 4, 1000, 1, 6, 7, 0, 2, 3);
    x.finger(0, 0);
    x.finger(0, 0);
    due.is("cheapest()", x.cheapest(), 27);
    due.is("take()", x.take(), 990);
    due.is("count(1)", x.count(1), 4);
    due.is("holds()", x.holds(), 1);
    long[][] pushes = {{160, 0}, {0, -160}, {-160, 0}, {0, 160}};
    long[] turns = {-20 * 160, -60 * 160, 60 * 160, 20 * 160};
    for (int t = 0; t < 4; t++) {
      due.is("push(" + t + ", 0)", x.push(t, 0), pushes[t][0]);
      due.is("push(" + t + ", 1)", x.push(t, 1), pushes[t][1]);
      due.is("push(" + t + ", 2)", x.push(t, 2), turns[t]);
    }
    due.is("the spots stay", x.count(3), 5);
    due.is("take() again", x.take(), 990);
    due.is("count(1)", x.count(1), 4);
  }

  private static void takeRefused() {
    due.run("take refused");
    GripBench x = spots(Told.square(), 0, 2, 5);
    x.finger(1, 1);
    due.is("take()", x.take(), -3);
    due.is("the finger stays", x.push(0, 0), -160);
    due.is("count(1)", x.count(1), 1);
    x = spots(Told.square(), 0, 4, 0, 2, 4, 0);
    x.friction(1);
    due.is("for nothing", x.take(), 0);
    due.is("count(1)", x.count(1), 2);
  }
}
