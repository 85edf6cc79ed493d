/** Promises 1 to 5: a new object, shape, corner, middle, isIn. */
public final class PartTest {
  private static final Due due = new Due();

  public static void main(String[] args) {
    newObject();
    shape();
    shapeRefused();
    shapeForgets();
    corner();
    middle();
    isIn();
    isInOfCrossedParts();
    due.end();
  }

  private static void newObject() {
    due.run("a new object");
    GripBench x = new GripBench();
    int[] corners = {0, 0, 10, 0, 0, 10};
    for (int i = 0; i < 6; i++) due.is("corner " + i, x.corner(i / 2, i % 2), corners[i]);
    due.is("corner(3, 0)", x.corner(3, 0), -1000);
    int[] counts = {3, 0, 0, 0, 0, 0, 0, 0, 0};
    for (int what = 0; what < 9; what++) due.is("count(" + what + ")", x.count(what), counts[what]);
    due.is("middle(0)", x.middle(0), 100);
    due.is("middle(1)", x.middle(1), 1000);
    due.is("middle(2)", x.middle(2), 1000);
    for (int s = 0; s < 4; s++) due.is("lose(" + s + ")", x.lose(s), -11);
    due.is("poses()", x.poses(), 81);
    due.is("holds()", x.holds(), 0);
    due.is("stuck()", x.stuck(), 0);
    due.is("cheapest()", x.cheapest(), -1);
  }

  private static void shape() {
    due.run("shape");
    for (int form = 0; form < 3; form++) {
      GripBench x = new GripBench();
      Told.row(x, 2, form, -30, -30, 30, -30, 30, 30, -30, 30, 7);
      due.is("shape(2, 4)", x.shape(2, 4), 7200);
      due.is("corner(0, 0)", x.corner(0, 0), -30);
      due.is("corner(2, 1)", x.corner(2, 1), 30);
      due.is("shape(2, 3)", x.shape(2, 3), 3600);
      due.is("count(0)", x.count(0), 3);
      due.is("get", x.get(2, form, 8), 7);
    }
    GripBench x = new GripBench();
    Told.row(x, 0, 2, 4, 0, 8, 1, 10, 3, 10, 6, 8, 9, 5, 10, 2, 9, 0, 6, 0, 3, 2, 1);
    due.is("shape(0, 10)", x.shape(0, 10), 152);
    due.is("count(0)", x.count(0), 10);
    due.is("corner(9, 0)", x.corner(9, 0), 2);
    due.is("corner(9, 1)", x.corner(9, 1), 1);
    Told.row(x, 0, 0, 0, 0, 1, 0, 0, 1);
    due.is("the least area", x.shape(0, 3), 1);
    Told.row(x, 0, 0, 0, 0, 0, 0, 1, 0, 0, 1);
    due.is("a corner told twice", x.shape(0, 4), 1);
  }

  private static void shapeRefused() {
    due.run("shape refused");
    GripBench x = new GripBench();
    due.is("shape(-1, 3)", x.shape(-1, 3), -2);
    due.is("shape(4, 3)", x.shape(4, 3), -2);
    due.is("shape(0, 2)", x.shape(0, 2), -2);
    due.is("shape(0, 11)", x.shape(0, 11), -2);
    due.is("count(6)", x.count(6), 0);
    due.is("NULL", x.shape(0, 3), -11);
    due.is("count(6)", x.count(6), 1);
    Told.row(x, 0, 0, 31, 0, 1, 0, 0);
    due.is("INDEX ahead of NOT", x.shape(0, 3), -12);
    due.is("count(6)", x.count(6), 2);
    int[][] beyond = {{31, 0, 0, 1, 0, 0}, {30, 0, 0, 31, 0, 0}, {30, 0, 0, 1, -31, 0}, {30, 0, 0, 1, 0, -31}};
    for (int[] row : beyond) {
      Told.row(x, 0, 1, row);
      due.is("a number beyond", x.shape(0, 3), -3);
    }
    Told.row(x, 0, 1, 0, 0, 0, 1, 1, 0);
    due.is("round to the right", x.shape(0, 3), -3);
    Told.row(x, 0, 1, 0, 0, 1, 1, 2, 2);
    due.is("area 0", x.shape(0, 3), -3);
    due.is("count(6) stays", x.count(6), 2);
    due.is("the part stays", x.middle(0), 100);
    Told.row(x, 0, 1, 0, 0, 5, 0, 0, 5, 99, -99);
    due.is("numbers behind the first n", x.shape(0, 3), 25);
    due.is("with them", x.shape(0, 4), -3);
  }

  private static void shapeForgets() {
    due.run("shape forgets");
    GripBench x = new GripBench();
    x.finger(0, 1);
    x.spot(0, 1, 1);
    x.probe(0, 0);
    x.grip();
    x.drop();
    x.friction(5);
    Told.row(x, 1, 0, 0, 0, 0, 1, 1, 0);
    due.is("shape(1, 3)", x.shape(1, 3), -3);
    due.is("fingers stay", x.count(1), 1);
    due.is("spots stay", x.count(3), 1);
    Told.row(x, 1, 0, 0, 0, 1, 0, 1, 1);
    due.is("shape(1, 3)", x.shape(1, 3), 1);
    int[] counts = {3, 0, 5, 0, 1, 1, 0, 1, 1};
    for (int what = 0; what < 9; what++) due.is("count(" + what + ")", x.count(what), counts[what]);
    due.is("the sheet stays", x.lose(1), 6);
    due.is("without the sheet", x.corner(2, 1), 1);
  }

  private static void corner() {
    due.run("corner");
    GripBench x = Told.part(-3, -4, 5, -6, 7, 8, -9, 10);
    int[] corners = {-3, -4, 5, -6, 7, 8, -9, 10};
    for (int i = 0; i < 8; i++) due.is("corner " + i, x.corner(i / 2, i % 2), corners[i]);
    due.is("corner(-1, 0)", x.corner(-1, 0), -1000);
    due.is("corner(4, 0)", x.corner(4, 0), -1000);
    due.is("corner(0, -1)", x.corner(0, -1), -1000);
    due.is("corner(0, 2)", x.corner(0, 2), -1000);
  }

  private static void middle() {
    due.run("middle");
    // An L of the boxes 0..6 x 0..2 and 0..2 x 2..6: twice areas 24 and 16, middles 3, 1 and 1, 4.
    GripBench x = Told.part(0, 0, 6, 0, 6, 2, 2, 2, 2, 6, 0, 6);
    due.is("middle(0)", x.middle(0), 40);
    due.is("middle(1)", x.middle(1), 3 * (24 * 3 + 16 * 1));
    due.is("middle(2)", x.middle(2), 3 * (24 * 1 + 16 * 4));
    due.is("middle(3)", x.middle(3), -1000000);
    due.is("middle(-1)", x.middle(-1), -1000000);
    x = Told.part(-30, -30, -20, -30, -30, -20);
    due.is("middle(1)", x.middle(1), -8000);
    due.is("middle(2)", x.middle(2), -8000);
  }

  private static void isIn() {
    due.run("isIn");
    // A tooth at 4, 4 points down from above: a way to the right may meet corners.
    GripBench x = Told.part(0, 0, 8, 0, 8, 8, 4, 4, 0, 8);
    int[][] asked = {
      {8, 8, 1}, {32, 31, 1}, {32, 32, 2}, {32, 33, 0}, {31, 33, 2}, {16, 32, 1}, {48, 32, 1}, {0, 0, 2},
      {64, 64, 2}, {0, 64, 2}, {64, 32, 2}, {65, 32, 0}, {-1, 32, 0}, {0, 32, 2}, {32, 0, 2}, {32, -1, 0},
      {8, 64, 0}, {8, 57, 0}, {8, 56, 2}, {8, 55, 1}, {56, 55, 1}, {56, 57, 0}, {-5, 64, 0}, {-5, 0, 0},
      {70, 0, 0}, {30, 63, 0}, {1, 62, 1}, {1000, 1000, 0}, {-1000, -1000, 0}, {-1000, 32, 0}
    };
    for (int[] a : asked) due.is("isIn(" + a[0] + ", " + a[1] + ")", x.isIn(a[0], a[1]), a[2]);
    int[][] bad = {{1001, 0}, {-1001, 0}, {0, 1001}, {0, -1001}, {Integer.MIN_VALUE, 0}, {0, Integer.MAX_VALUE}};
    for (int[] b : bad) due.is("isIn(" + b[0] + ", " + b[1] + ")", x.isIn(b[0], b[1]), -2);
    x = Told.part(0, 0, 8, 0, 8, 8, 8, 8, 0, 8);
    due.is("a corner told twice", x.isIn(64, 64), 2);
    due.is("left of it", x.isIn(63, 64), 2);
    due.is("right of it", x.isIn(65, 64), 0);
    due.is("above it", x.isIn(64, 65), 0);
    due.is("in by one each way", x.isIn(63, 63), 1);
    x = new GripBench();
    due.is("on the slope", x.isIn(40, 40), 2);
    due.is("below the slope", x.isIn(40, 39), 1);
    due.is("above the slope", x.isIn(40, 41), 0);
    due.is("beyond the slope's end", x.isIn(88, -8), 0);
    due.is("ahead of the slope's beginning", x.isIn(-8, 88), 0);
  }

  private static void isInOfCrossedParts() {
    due.run("isIn of a part told to cross itself");
    GripBench x = Told.part(0, 0, 8, 0, 8, 8, 0, 8, 0, 0, 8, 0, 8, 8, 0, 8);
    due.is("middle(0)", x.middle(0), 256);
    due.is("crossed twice", x.isIn(32, 32), 0);
    due.is("on the rim", x.isIn(64, 32), 2);
    // A bow: the way goes over itself near 5, 5.
    x = Told.part(0, 0, 10, 0, 0, 10, 9, 10);
    due.is("the lower wing", x.isIn(40, 16), 1);
    due.is("the upper wing", x.isIn(40, 72), 1);
    due.is("beside it", x.isIn(8, 40), 0);
  }
}
