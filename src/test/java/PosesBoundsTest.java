/** The sentences about PROBES and POSES that name a bound: promises 20 to 22. */
public final class PosesBoundsTest {
  private static final Due due = new Due();

  public static void main(String[] args) {
    twentyAtMost();
    fortyEachWay();
    oneNoneElse();
    longerAndShorter();
    itemOfEach();
    fourEachWay();
    inOrOnRim();
    posesAsked();
    allAndNone();
    due.end();
  }

  /** "PROBES, 20 at most"; the answer is how many there are. */
  private static void twentyAtMost() {
    due.run("20: 20 at most");
    GripBench x = new GripBench();
    for (int i = 1; i <= 20; i++) {
      due.is("count(4) ahead", x.count(4), i - 1);
      due.is("probe", x.probe(i, -i), i);
    }
    due.is("the next", x.probe(0, 0), -4);
    due.is("the next again", x.probe(40, -40), -4);
    int[][] bad = {{41, 0}, {-41, 0}, {0, 41}, {0, -41}};
    for (int[] b : bad) due.is("BAD fits first", x.probe(b[0], b[1]), -2);
    due.is("count(4)", x.count(4), 20);
    Told.row(x, 1, 0, 0, 0, 5, 0, 0, 5);
    due.is("a new PART", x.shape(1, 3), 25);
    due.is("PROBES stay", x.count(4), 20);
    due.is("and are full", x.probe(0, 0), -4);
  }

  /** "places x, y (-40 to 40; not eighths)". */
  private static void fortyEachWay() {
    due.run("20: -40 to 40");
    GripBench x = new GripBench();
    int[][] taken = {{-40, 0}, {40, 0}, {0, -40}, {0, 40}, {-40, -40}, {40, 40}};
    for (int i = 0; i < taken.length; i++) due.is("probe", x.probe(taken[i][0], taken[i][1]), i + 1);
    int[] beyond = {-41, 41, Integer.MIN_VALUE, Integer.MAX_VALUE, 256, 65536};
    for (int b : beyond) {
      due.is("probe(" + b + ", 0)", x.probe(b, 0), -2);
      due.is("probe(0, " + b + ")", x.probe(0, b), -2);
      due.is("probe of both", x.probe(b, b), -2);
    }
    due.is("count(4)", x.count(4), 6);
    // The PART comes as far as 34: none of these is ever in it.
    x = Told.part(-30, -30, 30, -30, 30, 30, -30, 30);
    for (int[] place : taken) x.probe(place[0], place[1]);
    Told.row(x, 0, 0, 0, 0, 0, 0, 0, 0);
    due.is("none felt it", x.poses(), 81);
    for (int i = 0; i < 6; i++) {
      x.put(0, 0, i, 1);
      due.is("felt by " + i, x.poses(), 0);
      x.put(0, 0, i, 0);
    }
    x.probe(34, -34);
    x.sheet(0, 0, 7);
    x.put(0, 0, 6, 1);
    due.is("one POSE brings it to 34, -34", x.poses(), 1);
    due.is("pose(0)", x.pose(0), 80);
    x.put(0, 0, 6, 2);
    for (int i = 0; i < 6; i++) x.put(0, 0, i, 2);
    due.is("all LOST", x.poses(), 81);
  }

  /** "1 the part is there, 0 it is not, else (or without) it is LOST"; also numbers whose lowest bits are 1 or 0. */
  private static void oneNoneElse() {
    due.run("21: 1, 0, else");
    int[] told = {1, 0, -1, 2, 127, -128, 257, 256, -255, 32767, 65536, 65537, Integer.MIN_VALUE, Integer.MAX_VALUE};
    for (int form = 0; form < 3; form++) {
      for (int v : told) {
        GripBench x = Told.square();
        x.probe(0, 5);
        x.sheet(0, form, 1);
        x.put(0, form, 0, v);
        int kept = x.get(0, form, 0);
        due.is("FORM " + form + ", " + v, x.poses(), kept == 1 ? 45 : kept == 0 ? 36 : 81);
      }
    }
  }

  /** "(or without)": an item short, no items, no row; and items behind the last PROBE tell nothing. */
  private static void longerAndShorter() {
    due.run("21: or without");
    GripBench x = Told.square();
    for (int i = 0; i < 20; i++) x.probe(0, 5);
    for (int n = 0; n <= 60; n++) {
      due.is("sheet", x.sheet(0, 0, n), n);
      due.is("n " + n, x.poses(), n == 0 ? 81 : 36);
    }
    due.is("lose(0)", x.lose(0), 60);
    due.is("no row", x.poses(), 81);
    x = Told.square();
    for (int i = 0; i < 19; i++) x.probe(0, 5);
    x.probe(10, 5);
    x.sheet(0, 0, 19);
    for (int i = 0; i < 19; i++) x.put(0, 0, i, 1);
    due.is("the twentieth without", x.poses(), 45);
    x.sheet(0, 0, 20);
    for (int i = 0; i < 20; i++) x.put(0, 0, i, 1);
    due.is("the twentieth, too", x.poses(), 9);
    x.sheet(0, 0, 60);
    for (int i = 0; i < 60; i++) x.put(0, 0, i, i < 20 ? 1 : 0);
    due.is("items behind it", x.poses(), 9);
  }

  /** "What PROBE i felt is item i": the first and the last of 20 alone. */
  private static void itemOfEach() {
    due.run("21: item i");
    for (int felt = 0; felt < 20; felt++) {
      GripBench x = Told.part(0, 0, 1, 0, 1, 1, 0, 1);
      for (int i = 0; i < 20; i++) x.probe(i == felt ? 4 : -40, i == felt ? 4 : -40);
      x.sheet(0, 1, 20);
      for (int i = 0; i < 20; i++) x.put(0, 1, i, i == felt ? 1 : 2);
      due.is("poses()", x.poses(), 4);
      int[] fit = {77, 78, 87, 88};
      for (int i = 0; i < 4; i++) due.is("pose(" + i + ")", x.pose(i), fit[i]);
      due.is("pose(4)", x.pose(4), -2);
    }
  }

  /** "shifts dx, dy of -4 to 4 each (81), by dx first": each of the four farthest alone, and one farther. */
  private static void fourEachWay() {
    due.run("21, 22: -4 to 4");
    int[][] told = {{-14, -14, 0}, {-14, 14, 8}, {14, -14, 80}, {14, 14, 88}};
    for (int[] t : told) {
      GripBench x = Told.part(-10, -10, 10, -10, 10, 10, -10, 10);
      x.probe(t[0], t[1]);
      Told.row(x, 0, 0, 1);
      due.is("poses()", x.poses(), 1);
      due.is("pose(0)", x.pose(0), t[2]);
      due.is("pose(1)", x.pose(1), -2);
      x = Told.part(-10, -10, 10, -10, 10, 10, -10, 10);
      x.probe(t[0] / 14 * 15, t[1]);
      Told.row(x, 0, 0, 1);
      due.is("one farther", x.poses(), 0);
      due.is("pose(0)", x.pose(0), -2);
      Told.row(x, 0, 0, 0);
      due.is("not felt there", x.poses(), 81);
    }
    GripBench x = Told.square();
    for (int i = 0; i < 81; i++) due.is("by dx first", x.pose(i), 10 * (i / 9) + i % 9);
  }

  /** "each PROBE that felt 1 IN it or on its rim, and none that felt 0". */
  private static void inOrOnRim() {
    due.run("21: in it or on its rim");
    GripBench x = Told.part(-4, -4, 4, -4, 4, 4, -4, 4);
    x.probe(0, 0);
    Told.row(x, 0, 0, 1);
    due.is("on its rim at the farthest", x.poses(), 81);
    x.put(0, 0, 0, 0);
    due.is("none that felt 0", x.poses(), 0);
    x = Told.part(-3, -3, 3, -3, 3, 3, -3, 3);
    x.probe(0, 0);
    Told.row(x, 0, 0, 1);
    due.is("by one less", x.poses(), 49);
    x.put(0, 0, 0, 0);
    due.is("by one less, felt 0", x.poses(), 32);
    x.probe(0, 0);
    Told.row(x, 0, 0, 0, 1);
    due.is("there and not there", x.poses(), 0);
  }

  /** Promise 22: the first that FITS and the last; one beyond each. */
  private static void posesAsked() {
    due.run("22: the i-th");
    int[] beyond = {-1, 81, 82, Integer.MIN_VALUE, Integer.MAX_VALUE};
    for (int i : beyond) due.is("pose(" + i + ")", new GripBench().pose(i), -2);
    due.is("pose(0)", new GripBench().pose(0), 0);
    due.is("pose(80)", new GripBench().pose(80), 88);
    for (int far = 0; far <= 8; far++) {
      GripBench x = Told.part(0, 0, 4, 0, 4, 4, 0, 4);
      x.probe(far, far);
      Told.row(x, 0, 0, 1);
      int many = x.poses();
      int each = Math.min(4, far) - (far - 4) + 1;
      due.is("poses()", many, each * each);
      for (int i = 0; i < many; i++) {
        int pose = x.pose(i);
        due.yes("rising", i == 0 || pose > x.pose(i - 1));
        int dx = pose / 10 - 4, dy = pose % 10 - 4;
        due.yes("it fits", far - dx >= 0 && far - dx <= 4 && far - dy >= 0 && far - dy <= 4);
      }
      due.is("behind the last", x.pose(many), -2);
      due.is("ahead of the first", x.pose(-1), -2);
    }
  }

  private static void allAndNone() {
    due.run("21: all and none");
    due.is("no PROBES", new GripBench().poses(), 81);
    GripBench x = Told.square();
    x.probe(40, 40);
    Told.row(x, 0, 0, 1);
    due.is("none", x.poses(), 0);
    due.is("pose(0)", x.pose(0), -2);
    Told.row(x, 0, 0, 0);
    due.is("all", x.poses(), 81);
    due.is("pose(80)", x.pose(80), 88);
    due.is("pose(81)", x.pose(81), -2);
  }
}
