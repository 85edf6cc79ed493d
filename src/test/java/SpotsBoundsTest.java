/** The sentences about SPOTS that name a bound: promises 15 to 17. */
public final class SpotsBoundsTest {
  private static final Due due = new Due();
  /** By EDGE and k, on a square: none of the four can be left out. */
  private static final int[] FOUR_THAT_HOLD = {0, 2, 1, 6, 2, 2, 3, 6};

  public static void main(String[] args) {
    sevenAtMost();
    edgesAndEighths();
    priceEnds();
    noneAtAll();
    eachSpotMayBeOfIt();
    leastPrice();
    fewest();
    leastAsBits();
    takeInPlaceOfFingers();
    takeOfPriceEnds();
    due.end();
  }

  /** "SPOTS, 7 at most"; the answer is how many there are. */
  private static void sevenAtMost() {
    due.run("15: 7 at most");
    GripBench x = new GripBench();
    for (int i = 1; i <= 7; i++) {
      due.is("count(3) ahead", x.count(3), i - 1);
      due.is("spot", x.spot(i % 3, i, i), i);
    }
    due.is("the eighth", x.spot(0, 0, 0), -4);
    due.is("the eighth again", x.spot(2, 8, 1000), -4);
    int[][] bad = {{3, 0, 0}, {-1, 0, 0}, {0, 9, 0}, {0, -1, 0}, {0, 0, 1001}, {0, 0, -1}};
    for (int[] b : bad) due.is("BAD fits first", x.spot(b[0], b[1], b[2]), -2);
    due.is("count(3)", x.count(3), 7);
    due.is("eight FINGERS all the same", x.finger(0, 0), 0);
    due.is("release() leaves SPOTS", x.release() + x.count(3), 8);
  }

  private static void edgesAndEighths() {
    due.run("15: EDGE, k");
    for (int n = 3; n <= 10; n++) {
      GripBench x = Told.part(java.util.Arrays.copyOf(States.TEN_CORNERS, 2 * n));
      due.is("EDGE 0, k 0", x.spot(0, 0, 1), 1);
      due.is("EDGE 0, k 8", x.spot(0, 8, 1), 2);
      due.is("the last EDGE, k 0", x.spot(n - 1, 0, 1), 3);
      due.is("the last EDGE, k 8", x.spot(n - 1, 8, 1), 4);
      int[][] bad = {{-1, 0}, {n, 0}, {n, 8}, {10, 0}, {0, -1}, {0, 9}, {n - 1, 9}, {n, 9}};
      for (int[] b : bad) due.is("spot(" + b[0] + ", " + b[1] + ")", x.spot(b[0], b[1], 1), -2);
      due.is("count(3)", x.count(3), 4);
    }
  }

  /** "a PRICE (0 to 1000)". */
  private static void priceEnds() {
    due.run("15: 0 to 1000");
    GripBench x = new GripBench();
    int[] taken = {0, 1000, 1, 999};
    for (int i = 0; i < 4; i++) due.is("PRICE " + taken[i], x.spot(0, 0, taken[i]), i + 1);
    int[] bad = {-1, 1001, Integer.MIN_VALUE, Integer.MAX_VALUE};
    for (int price : bad) due.is("PRICE " + price, x.spot(0, 0, price), -2);
    due.is("count(3)", x.count(3), 4);
  }

  /** "NONE": no SPOTS, one, and seven of which no set HOLDS. */
  private static void noneAtAll() {
    due.run("16: NONE");
    GripBench x = Told.square();
    x.friction(16);
    for (int i = 0; i < 7; i++) {
      due.is(i + " on one EDGE", x.cheapest(), -1);
      due.is("take()", x.take(), -3);
      x.spot(0, i, 0);
    }
    due.is("seven on one EDGE", x.cheapest(), -1);
    due.is("take()", x.take(), -3);
    due.is("count(1)", x.count(1), 0);
    x = Told.fingers(Told.square(), FOUR_THAT_HOLD);
    due.is("FINGERS that hold are no SPOTS", x.cheapest(), -1);
    due.is("take()", x.take(), -3);
    due.is("they stay", x.holds(), 1);
  }

  /** Four that hold at any four of the seven places of the row: "as bits", the seventh too. */
  private static void eachSpotMayBeOfIt() {
    due.run("16: as bits");
    for (int set = 0; set < 128; set++) {
      if (Integer.bitCount(set) != 4) continue;
      GripBench x = Told.square();
      int at = 0;
      for (int i = 0; i < 7; i++) {
        boolean isOf = (set >> i & 1) != 0;
        x.spot(isOf ? FOUR_THAT_HOLD[2 * at] : 0, isOf ? FOUR_THAT_HOLD[2 * at + 1] : 2, 1000);
        if (isOf) at++;
      }
      int got = x.cheapest();
      // The rest stand where the first of the four does: the one of these that comes first is of it.
      int other = set & set - 1;
      due.is("cheapest() of " + set, got, other | 1);
    }
  }

  private static void leastPrice() {
    due.run("16: the least PRICE together");
    int[][] told = {{1, 0}, {500, 499}, {1000, 999}, {1000, 0}};
    for (int[] prices : told) {
      GripBench x = Told.square();
      x.friction(1);
      x.spot(0, 4, prices[0]);
      x.spot(2, 4, 7);
      x.spot(0, 4, prices[1]);
      due.is("the cheaper one", x.cheapest(), 6);
      due.is("take()", x.take(), prices[1] + 7);
    }
    // Five for 4 in place of two for 5; with the two for 4 there are fewest.
    for (int price = 3; price <= 5; price++) {
      GripBench x = Told.square();
      for (int i = 0; i < 4; i++) x.spot(FOUR_THAT_HOLD[2 * i], FOUR_THAT_HOLD[2 * i + 1], 1);
      x.spot(0, 4, price - 2);
      x.spot(2, 4, 2);
      x.friction(1);
      due.is("two for " + price, x.cheapest(), price <= 4 ? 48 : 15);
    }
  }

  /** "of like ones the fewest": others for nothing do not come with them. */
  private static void fewest() {
    due.run("16: the fewest");
    GripBench x = Told.square();
    x.friction(1);
    // On EDGE 1 at 50, 0, 100 from below, on EDGE 3 at 62 and 88: three hold, if one is between two over against it.
    int[] forNothing = {1, 4, 3, 3, 1, 0, 3, 1, 1, 8};
    for (int i = 0; i < 10; i += 2) x.spot(forNothing[i], forNothing[i + 1], 0);
    x.spot(0, 4, 3);
    x.spot(2, 4, 3);
    due.is("three for nothing ahead of two for 6", x.cheapest(), 1 + 2 + 16);
    due.is("take()", x.take(), 0);
    x = Told.square();
    x.friction(1);
    for (int i = 0; i < 5; i++) x.spot(0, i, 0);
    x.spot(0, 4, 3);
    x.spot(2, 4, 3);
    due.is("the two, without the rest for nothing", x.cheapest(), 16 + 64);
  }

  /** "then the least as bits": of like PRICE and number the one whose highest SPOT comes first. */
  private static void leastAsBits() {
    due.run("16: the least as bits");
    int[][] edges = {{0, 2, 0, 2}, {0, 0, 2, 2}, {0, 1, 3, 2}, {1, 0, 2, 3}, {0, 1, 2, 3}, {0, 2, 2, 2}};
    int[] want = {3, 5, 6, 6, 5, 3};
    for (int i = 0; i < edges.length; i++) {
      GripBench x = Told.square();
      x.friction(1);
      for (int edge : edges[i]) x.spot(edge, 4, 5);
      due.is("EDGES " + java.util.Arrays.toString(edges[i]), x.cheapest(), want[i]);
    }
    GripBench x = Told.square();
    x.friction(1);
    int[] seven = {0, 0, 0, 0, 0, 2, 2};
    for (int edge : seven) x.spot(edge, 4, 1000);
    due.is("of seven", x.cheapest(), 1 + 32);
  }

  /** Promise 17: "FINGERS are those of THE CHEAPEST, the least SPOTS first": of none and of eight ahead. */
  private static void takeInPlaceOfFingers() {
    due.run("17: in place of FINGERS");
    for (int size = 0; size <= 8; size++) {
      GripBench x = Told.square();
      for (int i = 0; i < size; i++) x.finger(1, i);
      x.friction(1);
      x.spot(3, 4, 1);
      x.spot(2, 4, 9);
      x.spot(0, 4, 9);
      x.spot(1, 4, 1);
      due.is("take()", x.take(), 2);
      due.is("count(1)", x.count(1), 2);
      due.is("count(3) stays", x.count(3), 4);
      due.is("FINGER 0 is of SPOT 0", x.push(0, 0), 160);
      due.is("FINGER 1 is of SPOT 3", x.push(2, 0), -160);
      due.is("holds()", x.holds(), 1);
      due.is("the next FINGER", x.finger(0, 0), 2);
      due.is("take() again", x.take(), 2);
      due.is("count(1)", x.count(1), 2);
    }
  }

  private static void takeOfPriceEnds() {
    due.run("17: its PRICE");
    int[] prices = {0, 1000};
    for (int price : prices) {
      GripBench x = Told.square();
      for (int i = 0; i < 4; i++) x.spot(FOUR_THAT_HOLD[2 * i], FOUR_THAT_HOLD[2 * i + 1], price);
      due.is("take()", x.take(), 4 * price);
      due.is("count(1)", x.count(1), 4);
      due.is("slip()", x.slip(), 1);
    }
  }
}
