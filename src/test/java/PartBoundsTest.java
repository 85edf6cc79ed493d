/** The sentences about THE PART that name a bound: what it is, promises 1 to 5. */
public final class PartBoundsTest {
  private static final Due due = new Due();
  private static final int LEAST = Integer.MIN_VALUE;
  private static final int MOST = Integer.MAX_VALUE;

  public static void main(String[] args) {
    nothingElseIsTold();
    threeToTenCorners();
    justSoManyItems();
    thirtyEachWay();
    farBeyondThirty();
    areaAboveNone();
    greatestArea();
    crossingIsNotAskedFor();
    noFingersNoSpots();
    edgeBehindTheLast();
    cornersOfEach();
    middles();
    placesAsked();
    onAnEdge();
    oneEndAbove();
    due.end();
  }

  /** Promise 1: "nothing else is told; all SHEETS are LOST". */
  private static void nothingElseIsTold() {
    due.run("1: a new object");
    for (int s = 0; s < 4; s++) {
      for (int form = 0; form < 3; form++) {
        GripBench x = new GripBench();
        due.is("count(6) before any", x.count(6), 0);
        due.is("get", x.get(s, form, 0), LEAST);
        due.is("NULL", x.count(6), 1);
      }
    }
    GripBench x = new GripBench();
    due.is("no FRICTION", x.friction(0), 0);
    due.is("no FINGERS", x.release(), 0);
    due.is("the first FINGER", x.finger(0, 0), 0);
    due.is("the first SPOT", x.spot(0, 0, 0), 1);
    due.is("the first PROBE", x.probe(0, 0), 1);
    due.is("the first GRIP", x.grip(), 0);
    due.is("the first PART", x.drop(), 0);
    due.is("reach(0)", x.reach(0), 1);
    GripBench y = new GripBench();
    due.is("another object has none of it", y.count(1) + y.count(3) + y.count(4) + y.count(5) + y.count(8), 0);
  }

  /** "a polygon of 3 to 10 CORNERS", "the first n (3 to 10)": of every SHEET and FORM. */
  private static void threeToTenCorners() {
    due.run("2: n is 3 to 10");
    int[] areas = new int[11];
    for (int n = 3; n <= 10; n++) areas[n] = area(States.TEN_CORNERS, n);
    for (int s = 0; s < 4; s++) {
      for (int form = 0; form < 3; form++) {
        GripBench x = new GripBench();
        Told.row(x, s, form, States.TEN_CORNERS);
        for (int n = 3; n <= 10; n++) {
          due.is("shape(" + s + ", " + n + ")", x.shape(s, n), areas[n]);
          due.is("count(0)", x.count(0), n);
          due.is("the last CORNER", x.corner(n - 1, 1), States.TEN_CORNERS[2 * n - 1]);
          due.is("none behind it", x.corner(n, 1), -1000);
        }
        int[] bad = {2, 11, 1, 0, -1, -3, LEAST, MOST, 259};
        for (int n : bad) due.is("shape(" + s + ", " + n + ")", x.shape(s, n), -2);
        due.is("count(0) stays", x.count(0), 10);
      }
    }
  }

  private static int area(int[] corners, int n) {
    int area = 0;
    for (int i = 0; i < n; i++) {
      int j = (i + 1) % n;
      area += corners[2 * i] * corners[2 * j + 1] - corners[2 * i + 1] * corners[2 * j];
    }
    return area;
  }

  /** INDEX: one item too few; "the first n pairs": just so many, and more. */
  private static void justSoManyItems() {
    due.run("2: INDEX");
    for (int n = 3; n <= 10; n++) {
      GripBench x = new GripBench();
      for (int many = 0; many < 2 * n; many++) {
        Told.row(x, 1, 2, java.util.Arrays.copyOf(States.TEN_CORNERS, many));
        due.is(many + " items, n " + n, x.shape(1, n), -12);
        due.is("count(6)", x.count(6), 2);
        if (x.count(0) != 3) due.yes("the part stays", false);
      }
      Told.row(x, 1, 2, java.util.Arrays.copyOf(States.TEN_CORNERS, 2 * n));
      due.is("just so many, n " + n, x.shape(1, n), area(States.TEN_CORNERS, n));
      int[] more = java.util.Arrays.copyOf(States.TEN_CORNERS, 60);
      for (int i = 2 * n; i < 60; i++) more[i] = 31;
      Told.row(x, 1, 2, more);
      due.is("60 items, n " + n, x.shape(1, n), area(States.TEN_CORNERS, n));
    }
  }

  /** "CORNERS x, y (-30 to 30 each)": each of the items at both ends, and by one beyond; of 3 CORNERS and of 10. */
  private static void thirtyEachWay() {
    due.run("2: -30 to 30 each");
    int[] square = {-30, -30, 30, -30, 30, 30, -30, 30};
    for (int left = 0; left < 4; left++) {
      for (int first = 0; first < 3; first++) {
        int[] told = new int[6];
        for (int i = 0; i < 3; i++) {
          int corner = (left + 1 + (first + i) % 3) % 4;
          told[2 * i] = square[2 * corner];
          told[2 * i + 1] = square[2 * corner + 1];
        }
        for (int at = 0; at < 6; at++) endOf(told, at);
      }
    }
    int[] ten = {20, 0, 18, 10, 8, 18, -8, 18, -18, 12, -20, 0, -16, -12, -6, -20, 6, -20, 16, -12};
    for (int at = 0; at < 20; at++) {
      for (int end = -30; end <= 30; end += 60) {
        int[] told = ten.clone();
        told[at] = end;
        due.yes("AREA above 0", area(told, 10) > 0);
        endOf(told, at);
      }
    }
  }

  /** The item at this place is -30 or 30: it is taken, and by one beyond it is not. */
  private static void endOf(int[] told, int at) {
    int n = told.length / 2;
    for (int form = 0; form < 3; form++) {
      GripBench x = new GripBench();
      Told.row(x, 2, form, told);
      due.is("item " + at + " is " + told[at], x.shape(2, n), area(told, n));
      due.is("it is told", x.corner(at / 2, at % 2), told[at]);
      x.put(2, form, at, told[at] / 30 * 31);
      due.is("item " + at + " is one beyond", x.shape(2, n), -3);
      due.is("the part stays", x.corner(at / 2, at % 2), told[at]);
    }
  }

  /** Numbers whose lowest bits would do, and whose products run over an int. */
  private static void farBeyondThirty() {
    due.run("2: far beyond");
    int[] far = {127, -128, 256, 32767, -32768, 65536, 65546, LEAST, MOST, LEAST + 10, -31, 31};
    for (int number : far) {
      for (int at = 0; at < 6; at++) {
        int[] told = {0, 0, 10, 0, 0, 10};
        told[at] = number;
        GripBench x = new GripBench();
        Told.row(x, 0, 2, told);
        due.is("item " + at + " is " + number, x.shape(0, 3), -3);
        due.is("middle(0)", x.middle(0), 100);
      }
    }
  }

  /** "with its area above 0", "AREA not above 0". */
  private static void areaAboveNone() {
    due.run("2: AREA above 0");
    int[][] above = {{0, 0, 1, 0, 0, 1}, {-30, -30, 29, 28, 30, 29}, {30, 30, 29, 30, 29, 29}};
    int[][] none = {{0, 0, 1, 0, 2, 0}, {5, 5, 5, 5, 5, 5}, {0, 0, 30, 30, -30, -30}, {0, 0, 4, 0, 4, 0}};
    int[][] below = {{0, 0, 0, 1, 1, 0}, {-30, -30, 30, 29, 29, 28}, {-30, -30, -30, 30, 30, 30}};
    for (int[] told : above) shapeOf(told, 1);
    for (int[] told : none) shapeOf(told, -3);
    for (int[] told : below) shapeOf(told, -3);
    // A bow whose wings are like has AREA 0; with one corner moved it has 10 more or less.
    shapeOf(new int[] {0, 0, 10, 0, 0, 10, 10, 10}, -3);
    shapeOf(new int[] {0, 0, 10, 0, 0, 10, 9, 10}, 10);
    shapeOf(new int[] {0, 0, 10, 0, 0, 10, 11, 10}, -3);
  }

  private static void shapeOf(int[] told, int want) {
    GripBench x = new GripBench();
    Told.row(x, 3, 1, told);
    due.is("shape of " + java.util.Arrays.toString(told), x.shape(3, told.length / 2), want);
    due.is("middle(0)", x.middle(0), want == -3 ? 100 : want);
    due.is("count(6)", x.count(6), 0);
  }

  private static void greatestArea() {
    due.run("2: the greatest AREA");
    GripBench x = Told.part(-30, -30, 30, -30, 30, 30, -30, 30);
    due.is("middle(0)", x.middle(0), 7200);
    due.is("middle(1)", x.middle(1), 0);
    due.is("middle(2)", x.middle(2), 0);
    x = Told.part(30, 0, 30, 30, -30, 30, -30, 29, 29, 29, 29, 0);
    due.is("near the rim", x.middle(0), area(new int[] {30, 0, 30, 30, -30, 30, -30, 29, 29, 29, 29, 0}, 6));
  }

  /** "that it does not cross itself is the teller's (nothing asks for it)". */
  private static void crossingIsNotAskedFor() {
    due.run("2: it may cross itself");
    shapeOf(new int[] {0, 0, 8, 0, 8, 8, 0, 8, 0, 0, 8, 0, 8, 8, 0, 8}, 256);
    shapeOf(new int[] {0, 0, 10, 0, 0, 0, 0, 10}, -3);
    shapeOf(new int[] {0, 0, 10, 0, 0, 10, 0, 0, 10, 0, 0, 10}, 200);
    int[] star = {0, 30, -18, -24, 29, 9, -29, 9, 18, -24};
    shapeOf(star, area(star, 5));
  }

  /** "no FINGERS, SPOTS": all eight and all seven of them, or none; those told behind it are numbered anew. */
  private static void noFingersNoSpots() {
    due.run("2: no FINGERS, SPOTS");
    GripBench x = States.full();
    Told.row(x, 3, 2, 0, 0, 10, 0, 0, 10);
    due.is("shape(3, 3)", x.shape(3, 3), 100);
    int[] counts = {3, 0, 16, 0, 20, 10, 0, 11, 12};
    for (int what = 0; what < 9; what++) due.is("count(" + what + ")", x.count(what), counts[what]);
    due.is("push(0, 0)", x.push(0, 0), Told.LEAST + 2);
    due.is("cheapest()", x.cheapest(), -1);
    due.is("finger(2, 8)", x.finger(2, 8), 0);
    due.is("finger(3, 8)", x.finger(3, 8), -2);
    due.is("spot(2, 8, 0)", x.spot(2, 8, 0), 1);
    due.is("the same again", x.shape(3, 3), 100);
    due.is("count(1)", x.count(1), 0);
    due.is("count(3)", x.count(3), 0);
    due.is("with none", x.shape(3, 3), 100);
  }

  /** "EDGE i from CORNER i to the next one (behind the last the first)". */
  private static void edgeBehindTheLast() {
    due.run("2: behind the last the first");
    for (int n = 3; n <= 10; n++) {
      GripBench x = Told.part(java.util.Arrays.copyOf(States.TEN_CORNERS, 2 * n));
      for (int edge = 0; edge < n; edge++) {
        for (int k = 0; k <= 8; k += 8) {
          x.release();
          x.finger(edge, k);
          int next = (edge + 1) % n;
          long p = -16L * (x.corner(next, 1) - x.corner(edge, 1));
          long q = 16L * (x.corner(next, 0) - x.corner(edge, 0));
          int at = k == 0 ? edge : next;
          due.is("push(0, 0) of " + edge, x.push(0, 0), p);
          due.is("push(0, 1) of " + edge, x.push(0, 1), q);
          due.is("push(0, 2) of " + edge, x.push(0, 2), 8 * x.corner(at, 0) * q - 8 * x.corner(at, 1) * p);
        }
      }
      due.is("finger(" + n + ", 0)", x.finger(n, 0), -2);
    }
  }

  /** Promise 3: the first CORNER and the last, x and y; and those just beyond. */
  private static void cornersOfEach() {
    due.run("3: corner");
    for (int n = 3; n <= 10; n++) {
      GripBench x = Told.part(java.util.Arrays.copyOf(States.TEN_CORNERS, 2 * n));
      for (int i = 0; i < 2 * n; i++) due.is("corner", x.corner(i / 2, i % 2), States.TEN_CORNERS[i]);
      int[] noCorner = {-1, n, n + 1, 10, 11, LEAST, MOST};
      for (int i : noCorner) for (int what = 0; what < 2; what++) due.is("corner(" + i + ")", x.corner(i, what), -1000);
      int[] noPart = {-1, 2, LEAST, MOST};
      for (int what : noPart) due.is("corner(0, " + what + ")", x.corner(0, what), -1000);
      for (int what : noPart) due.is("corner of " + n + ", " + what, x.corner(n, what), -1000);
    }
  }

  private static void middles() {
    due.run("4: middle");
    int[] none = {-1, 3, LEAST, MOST};
    for (int what : none) due.is("middle(" + what + ")", new GripBench().middle(what), -1000000);
    // The box of 20 to 30 each way, and the one over against it: AREA 200, its MIDDLE 25 away.
    GripBench x = Told.part(20, 20, 30, 20, 30, 30, 20, 30);
    due.is("middle(1)", x.middle(1), 3 * 200 * 25);
    due.is("middle(2)", x.middle(2), 3 * 200 * 25);
    x = Told.part(-30, -30, -20, -30, -20, -20, -30, -20);
    due.is("middle(1)", x.middle(1), -3 * 200 * 25);
    due.is("middle(2)", x.middle(2), -3 * 200 * 25);
    x = Told.part(0, -30, 30, -30, 30, 30, 0, 30);
    due.is("middle(1)", x.middle(1), 3 * 3600 * 15);
    due.is("middle(2)", x.middle(2), 0);
  }

  /** Promise 5: "(in eighths, -1000 to 1000 each)". */
  private static void placesAsked() {
    due.run("5: -1000 to 1000 each");
    GripBench x = new GripBench();
    int[] ends = {-1000, 1000};
    for (int end : ends) {
      due.is("isIn(" + end + ", 0)", x.isIn(end, 0), 0);
      due.is("isIn(0, " + end + ")", x.isIn(0, end), 0);
      for (int other : ends) due.is("isIn of both", x.isIn(end, other), 0);
    }
    int[] beyond = {-1001, 1001, LEAST, MOST, 65536 + 8, LEAST + 8};
    for (int b : beyond) {
      due.is("isIn(" + b + ", 8)", x.isIn(b, 8), -2);
      due.is("isIn(8, " + b + ")", x.isIn(8, b), -2);
      due.is("isIn of both", x.isIn(b, b), -2);
    }
    x = Told.part(-30, -30, 30, -30, 30, 30, -30, 30);
    int[][] rim = {{-240, -240}, {240, 240}, {-240, 240}, {240, 0}, {0, -240}};
    for (int[] place : rim) due.is("the farthest rim", x.isIn(place[0], place[1]), 2);
    due.is("just in", x.isIn(239, 239), 1);
    due.is("just out", x.isIn(241, 240), 0);
    due.is("just out", x.isIn(-241, -240), 0);
  }

  /** "on its rim: on an EDGE": its beginning, its end, between; not in line with it beyond. */
  private static void onAnEdge() {
    due.run("5: on an EDGE");
    GripBench x = Told.part(States.TEN_CORNERS);
    for (int edge = 0; edge < 10; edge++) {
      int next = (edge + 1) % 10;
      int dx = x.corner(next, 0) - x.corner(edge, 0), dy = x.corner(next, 1) - x.corner(edge, 1);
      for (int k = -2; k <= 10; k++) {
        int px = 8 * x.corner(edge, 0) + k * dx, py = 8 * x.corner(edge, 1) + k * dy;
        due.is("k " + k + " of EDGE " + edge, x.isIn(px, py), k >= 0 && k <= 8 ? 2 : 0);
      }
    }
    x = Told.part(0, 0, 0, 0, 5, 0, 5, 5);
    due.is("an EDGE of no length", x.isIn(0, 0), 2);
    due.is("beside it", x.isIn(-1, 0), 0);
    due.is("above it", x.isIn(0, 1), 0);
    x = Told.part(0, 0, 10, 0, 10, 10, 10, 15, 10, 10, 0, 10);
    due.is("on a hair", x.isIn(80, 100), 2);
    due.is("at its end", x.isIn(80, 120), 2);
    due.is("beyond its end", x.isIn(80, 121), 0);
    due.is("left of it", x.isIn(79, 100), 0);
    due.is("right of it", x.isIn(81, 100), 0);
  }

  /** "those of which one end is above it and the other not": ways that meet CORNERS and level EDGES, all places. */
  private static void oneEndAbove() {
    due.run("5: one end above, the other not");
    // Teeth up and down, level EDGES between them, at the heights of many places asked.
    int[][] parts = {
      {0, 0, 2, 2, 4, 0, 6, 2, 8, 0, 8, 4, 6, 4, 5, 2, 3, 4, 0, 4}, {0, 0, 6, 0, 6, 3, 4, 3, 4, 6, 2, 6, 2, 3, 0, 3},
      {0, 3, 3, 0, 6, 3, 3, 6}, {0, 0, 8, 4, 0, 8, 4, 4}, {8, 0, 8, 8, 4, 4, 0, 8, 0, 0, 4, 3}
    };
    for (int[] part : parts) {
      Pair pair = told(part);
      due.is("it is told", pair.bench.count(0), part.length / 2);
      int asked = 0;
      for (int px = -3; px <= 67; px++) {
        for (int py = -3; py <= 67; py++) {
          // An object is used for 512 calls: then another is told the same.
          if (++asked % 450 == 0) pair = told(part);
          pair.call(3, px, py);
        }
      }
    }
  }

  private static Pair told(int[] part) {
    Pair pair = new Pair(due);
    pair.call(29, 1, 0, part.length);
    for (int i = 0; i < part.length; i++) pair.call(31, 1, 0, i, part[i]);
    pair.call(0, 1, part.length / 2);
    return pair;
  }
}
