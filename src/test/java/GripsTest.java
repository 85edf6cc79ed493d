/** Promises 23 to 25: grip, link, way. */
public final class GripsTest {
  private static final Due due = new Due();

  public static void main(String[] args) {
    grip();
    link();
    way();
    longWay();
    wayRefused();
    due.end();
  }

  private static GripBench grips(int n) {
    GripBench x = new GripBench();
    for (int i = 0; i < n; i++) x.grip();
    return x;
  }

  private static void grip() {
    due.run("grip");
    GripBench x = new GripBench();
    for (int i = 0; i < 10; i++) due.is("grip()", x.grip(), i);
    due.is("grip()", x.grip(), -4);
    due.is("count(5)", x.count(5), 10);
    due.is("way(9, 9)", x.way(9, 9), 0);
    due.is("way(10, 10)", x.way(10, 10), -2);
  }

  private static void link() {
    due.run("link");
    GripBench x = grips(3);
    int[][] bad = {{-1, 0, 1}, {3, 0, 1}, {0, -1, 1}, {0, 3, 1}, {0, 1, 0}, {0, 1, 1001}, {0, 1, -1}, {2, 2, 1}};
    for (int[] b : bad) due.is("link of " + b[0] + ", " + b[1] + ", " + b[2], x.link(b[0], b[1], b[2]), -2);
    due.is("no way", x.way(0, 1), -1);
    due.is("link(0, 1, 1000)", x.link(0, 1, 1000), 1);
    due.is("way(0, 1)", x.way(0, 1), 1000);
    due.is("way(1, 0)", x.way(1, 0), 1000);
    due.is("link(1, 0, 1)", x.link(1, 0, 1), 1);
    due.is("a later one", x.way(0, 1), 1);
    due.is("link(0, 1, 500)", x.link(0, 1, 500), 1);
    due.is("a dearer one", x.way(1, 0), 500);
  }

  private static void way() {
    due.run("way");
    GripBench x = grips(6);
    x.link(0, 1, 7);
    x.link(0, 2, 9);
    x.link(0, 5, 14);
    x.link(1, 2, 10);
    x.link(1, 3, 15);
    x.link(2, 3, 11);
    x.link(2, 5, 2);
    due.is("way(0, 4)", x.way(0, 4), -1);
    due.is("way(4, 4)", x.way(4, 4), 0);
    x.link(3, 4, 6);
    x.link(4, 5, 9);
    int[] from0 = {0, 7, 9, 20, 20, 11};
    for (int b = 0; b < 6; b++) {
      due.is("way(0, " + b + ")", x.way(0, b), from0[b]);
      due.is("way(" + b + ", 0)", x.way(b, 0), from0[b]);
    }
    due.is("way(1, 4)", x.way(1, 4), 21);
    due.is("a new grip", x.grip(), 6);
    due.is("way(0, 6)", x.way(0, 6), -1);
  }

  /** All ten in a row, so that they are met neither by rising nor by falling numbers. */
  private static void longWay() {
    due.run("a long way");
    GripBench x = grips(10);
    int[] row = {9, 0, 8, 1, 7, 2, 6, 3, 5, 4};
    for (int i = 0; i + 1 < 10; i++) x.link(row[i], row[i + 1], 1000);
    for (int i = 0; i < 10; i++) {
      for (int j = 0; j < 10; j++) due.is("way", x.way(row[i], row[j]), 1000 * Math.abs(i - j));
    }
    x = grips(10);
    for (int i = 0; i + 1 < 10; i++) x.link(i, i + 1, i + 1);
    due.is("way(9, 0)", x.way(9, 0), 45);
    due.is("way(0, 9)", x.way(0, 9), 45);
    x.link(9, 0, 46);
    due.is("way(9, 0)", x.way(9, 0), 45);
    x.link(0, 9, 44);
    due.is("way(9, 0)", x.way(9, 0), 44);
  }

  private static void wayRefused() {
    due.run("way refused");
    GripBench x = new GripBench();
    due.is("way(0, 0)", x.way(0, 0), -2);
    x.grip();
    x.grip();
    int[][] bad = {{-1, 0}, {2, 0}, {0, -1}, {0, 2}, {2, 2}, {-1, -1}};
    for (int[] b : bad) due.is("way(" + b[0] + ", " + b[1] + ")", x.way(b[0], b[1]), -2);
    due.is("way(0, 1)", x.way(0, 1), -1);
  }
}
