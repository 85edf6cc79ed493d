/** Promises 20 to 22: probe, poses, pose. */
public final class PosesTest {
  private static final Due due = new Due();

  public static void main(String[] args) {
    probe();
    poses();
    lost();
    rim();
    pose();
    due.end();
  }

  private static void probe() {
    due.run("probe");
    GripBench x = new GripBench();
    int[][] bad = {{41, 0}, {-41, 0}, {0, 41}, {0, -41}, {Integer.MIN_VALUE, 0}};
    for (int[] b : bad) due.is("probe(" + b[0] + ", " + b[1] + ")", x.probe(b[0], b[1]), -2);
    due.is("count(4)", x.count(4), 0);
    for (int i = 1; i <= 20; i++) due.is("probe", x.probe(i % 2 * 80 - 40, i % 3 * 40 - 40), i);
    due.is("probe(0, 0)", x.probe(0, 0), -4);
    due.is("probe(41, 0) is BAD ahead of FULL", x.probe(41, 0), -2);
    due.is("count(4)", x.count(4), 20);
    // The last one counts, too: 40 - 40, nothing felt there.
    Told.row(x, 0, 0, 7, 7, 7, 7, 7, 7, 7, 7, 7, 7, 7, 7, 7, 7, 7, 7, 7, 7, 7, 1);
    due.is("poses()", x.poses(), 0);
  }

  private static void poses() {
    due.run("poses");
    GripBench x = Told.square();
    due.is("without probes", x.poses(), 81);
    x.probe(0, 5);
    due.is("LOST", x.poses(), 81);
    for (int form = 0; form < 3; form++) {
      Told.row(x, 0, form, 1);
      due.is("felt the part", x.poses(), 5 * 9);
      Told.row(x, 0, form, 0);
      due.is("felt nothing", x.poses(), 4 * 9);
    }
    x.probe(10, 0);
    Told.row(x, 0, 2, 1, 1);
    due.is("both felt the part", x.poses(), 1 * 5);
    Told.row(x, 0, 2, 1, 0);
    due.is("the second felt nothing", x.poses(), 4 * 9 + 1 * 4);
    Told.row(x, 1, 2, 1, 1);
    due.is("SHEET 1 tells nothing", x.poses(), 4 * 9 + 1 * 4);
    x.probe(40, 40);
    Told.row(x, 0, 2, 1, 1, 1);
    due.is("none", x.poses(), 0);
    due.is("pose(0)", x.pose(0), -2);
    Told.row(x, 0, 2, 1, 1, 0);
    due.is("far off nothing", x.poses(), 5);
  }

  private static void lost() {
    due.run("lost touches");
    GripBench x = Told.square();
    x.probe(0, 5);
    x.probe(10, 0);
    int[] other = {2, -1, 7, 127, -128};
    for (int felt : other) {
      Told.row(x, 0, 0, 1, felt);
      due.is("felt " + felt, x.poses(), 45);
    }
    Told.row(x, 0, 0, 1);
    due.is("without an item", x.poses(), 45);
    Told.row(x, 0, 0);
    due.is("without items", x.poses(), 81);
    x.lose(0);
    due.is("without the sheet", x.poses(), 81);
    Told.row(x, 0, 0, 1, 1, 0, 0, 0);
    due.is("items without probes", x.poses(), 5);
    x.lose(0);
    due.is("lost again", x.poses(), 81);
  }

  private static void rim() {
    due.run("the rim");
    // A diamond round 0, 0: its corners are 4 away.
    GripBench x = Told.part(4, 0, 0, 4, -4, 0, 0, -4);
    x.probe(0, 0);
    Told.row(x, 0, 0, 1);
    due.is("in it or on its rim", x.poses(), 41);
    Told.row(x, 0, 0, 0);
    due.is("out", x.poses(), 40);
    due.is("pose(0)", x.pose(0), 0);
  }

  private static void pose() {
    due.run("pose");
    GripBench x = new GripBench();
    for (int i = 0; i < 81; i++) due.is("pose(" + i + ")", x.pose(i), 10 * (i / 9) + i % 9);
    due.is("pose(81)", x.pose(81), -2);
    due.is("pose(-1)", x.pose(-1), -2);
    due.is("pose of the least int", x.pose(Integer.MIN_VALUE), -2);
    // It has 11, 1: shifts of 1 to 4 by -4 to 1 of which both together are 2 or more.
    x.probe(11, 1);
    Told.row(x, 0, 1, 1);
    int[] fit = {55, 64, 65, 73, 74, 75, 82, 83, 84, 85};
    due.is("poses()", x.poses(), fit.length);
    for (int i = 0; i < fit.length; i++) due.is("pose(" + i + ")", x.pose(i), fit[i]);
    due.is("pose(10)", x.pose(10), -2);
  }
}
