/** Promises 36 and 37: count, digest; the constants; and that refusals change nothing else. */
public final class CountsTest {
  private static final Due due = new Due();

  public static void main(String[] args) {
    constants();
    count();
    digestOfNew();
    digestOfAll();
    digestOfHolding();
    digestTellsApart();
    refusalsChangeNothing();
    due.end();
  }

  private static void constants() {
    due.run("constants");
    due.is("NONE", GripBench.NONE, -1);
    due.is("BAD", GripBench.BAD, -2);
    due.is("NOT", GripBench.NOT, -3);
    due.is("FULL", GripBench.FULL, -4);
  }

  private static GripBench told() {
    GripBench x = Told.part(1, 2, 11, 2, 11, 12, 1, 12);
    Told.fingers(x, 0, 2, 1, 6, 2, 2);
    x.friction(4);
    x.spot(0, 0, 1);
    x.spot(0, 0, 1);
    for (int i = 0; i < 5; i++) x.probe(i, i);
    for (int i = 0; i < 6; i++) x.grip();
    for (int i = 0; i < 9; i++) x.drop();
    x.pick(8);
    x.on(3, 2);
    x.on(2, 3);
    Told.row(x, 0, 2, 0, 0, 1);
    return x;
  }

  private static void count() {
    due.run("count");
    GripBench x = told();
    x.get(0, 2, 3);
    int[] counts = {4, 3, 4, 2, 5, 6, 2, 8, 9};
    for (int what = 0; what < 9; what++) due.is("count(" + what + ")", x.count(what), counts[what]);
    due.is("count(9)", x.count(9), -2);
    due.is("count(-1)", x.count(-1), -2);
    due.is("count of the least int", x.count(Integer.MIN_VALUE), -2);
  }

  private static long digestOf(long... told) {
    long h = 17;
    for (long number : told) h = 31 * h + number;
    return h;
  }

  private static void digestOfNew() {
    due.run("digest of a new object");
    GripBench x = new GripBench();
    long want = digestOf(3, 0, 0, 0, 0, 0, 0, 0, 0, 0, 10, 0, 0, 10, 0, 81, 0);
    due.is("digest()", x.digest(), want);
    x.lose(0);
    due.is("findings are not in it", x.digest(), want);
    due.is("nor does it change a thing", x.digest(), want);
  }

  private static void digestOfAll() {
    due.run("digest");
    GripBench x = told();
    // FINGERS at 28, 16 and 88, 76 and 68, 96; PUSHES are 40 aside of 160.
    long[] counts = {4, 3, 4, 2, 5, 6, 8, 9};
    long[] corners = {1, 2, 11, 2, 11, 12, 1, 12};
    long[][] pushes = {
      {28, 16, 40, 160}, {28, 16, -40, 160}, {88, 76, -160, 40}, {88, 76, -160, -40}, {68, 96, -40, -160},
      {68, 96, 40, -160}
    };
    long[] told = new long[8 + 8 + 18 + 3];
    System.arraycopy(counts, 0, told, 0, 8);
    System.arraycopy(corners, 0, told, 8, 8);
    int at = 16;
    for (long[] p : pushes) {
      told[at++] = p[2];
      told[at++] = p[3];
      told[at++] = p[0] * p[3] - p[1] * p[2];
    }
    told[at++] = x.holds();
    told[at++] = x.poses();
    told[at++] = 4 + 8;
    due.is("holds()", x.holds(), 0);
    due.is("digest()", x.digest(), digestOf(told));
  }

  private static void digestOfHolding() {
    due.run("digest where they hold");
    GripBench x = Told.fingers(Told.square(), 0, 2, 1, 6, 2, 2, 3, 6);
    long want = digestOf(4, 4, 0, 0, 0, 0, 0, 0, 0, 0, 10, 0, 10, 10, 0, 10, 0, 160, 3200, -160, 0, 9600,
        0, -160, -9600, 160, 0, -3200, 1, 81, 0);
    due.is("digest()", x.digest(), want);
  }

  private static void digestTellsApart() {
    due.run("digest tells what has changed");
    GripBench x = told();
    long was = x.digest();
    x.release();
    due.yes("release", x.digest() != was);
    was = x.digest();
    x.grip();
    due.yes("grip", x.digest() != was);
    was = x.digest();
    x.pick(7);
    due.yes("pick", x.digest() != was);
    was = x.digest();
    x.put(0, 2, 0, 1);
    due.yes("what a probe felt", x.digest() != was);
    was = x.digest();
    x.friction(7);
    due.yes("friction", x.digest() != was);
  }

  private static void refusalsChangeNothing() {
    due.run("refusals");
    GripBench x = told();
    long was = x.digest();
    int cheapest = x.cheapest();
    int finding = x.count(6);
    long sum = x.shape(9, 3) + x.corner(99, 0) + x.middle(9) + x.isIn(2000, 0) + x.finger(9, 9) + x.move(9, 0, 0)
        + x.friction(99) + x.free(99) + x.spot(9, 9, 9) + x.take() + x.lifts(0, 0, 0, 0) + x.seal(0, 0, 0)
        + x.probe(99, 0) + x.pose(99) + x.link(0, 0, 1) + x.way(0, 99) + x.on(0, 0) + x.pick(8) + x.reach(8)
        + x.sheet(9, 0, 0) + x.lose(9) + x.put(9, 0, 0, 0) + x.copy(9, 0, 0, 0, 0) + x.count(99);
    due.is("all refused", sum, -1000 - 1000000 - 2 * 19 - 3 * 3);
    due.is("push", x.push(99, 0), Long.MIN_VALUE + 2);
    due.is("witness", x.witness(9), Long.MIN_VALUE + 2);
    due.is("get", x.get(9, 0, 0), Integer.MIN_VALUE);
    due.is("digest()", x.digest(), was);
    due.is("cheapest()", x.cheapest(), cheapest);
    due.is("count(6)", x.count(6), finding);
    x.get(0, 0, 0);
    x.copy(0, 0, 1, 0, 1);
    x.shape(0, 3);
    due.is("findings change count(6)", x.count(6), 2);
    due.is("and nothing else", x.digest(), was);
  }
}
