/** Promises 18 and 19: lifts, seal. */
public final class CupsTest {
  private static final Due due = new Due();

  public static void main(String[] args) {
    lifts();
    liftsRefused();
    liftsBig();
    seal();
    sealIsLeast();
    sealRefused();
    due.end();
  }

  private static void lifts() {
    due.run("lifts");
    // The MIDDLE is 5, 5: 40, 40 in eighths; 3 and 4 from it is 5.
    GripBench x = Told.square();
    due.is("in the middle", x.lifts(40, 40, 20, 0), 1);
    due.is("5 away with 50", x.lifts(43, 44, 10, 50), 1);
    due.is("5 away with 49", x.lifts(43, 44, 10, 49), 0);
    due.is("5 away on the other side", x.lifts(36, 37, 10, 50), 1);
    due.is("5 away with weight 11", x.lifts(36, 37, 11, 50), 0);
    due.is("on the rim", x.lifts(80, 40, 1, 40), 1);
    due.is("on the rim with 39", x.lifts(80, 40, 1, 39), 0);
    due.is("out by one", x.lifts(81, 40, 1, 100000), 0);
    due.is("at a corner", x.lifts(80, 80, 1, 57), 1);
    due.is("at a corner with 56", x.lifts(80, 80, 1, 56), 0);
    // The MIDDLE of the triangle is 80 thirds each way.
    x = new GripBench();
    due.is("a third away with 9", x.lifts(27, 27, 20, 9), 0);
    due.is("a third away with 10", x.lifts(27, 27, 20, 10), 1);
    due.is("two thirds away", x.lifts(26, 26, 3, 2), 0);
    due.is("two thirds away with 3", x.lifts(26, 26, 3, 3), 1);
  }

  private static void liftsRefused() {
    due.run("lifts refused");
    GripBench x = Told.square();
    int[][] bad = {
      {1001, 0, 1, 0}, {-1001, 0, 1, 0}, {0, 1001, 1, 0}, {0, -1001, 1, 0}, {40, 40, 0, 0}, {40, 40, 21, 0},
      {40, 40, 1, -1}, {40, 40, 1, 100001}, {500, 500, 0, 0}
    };
    for (int[] b : bad) due.is("lifts of " + java.util.Arrays.toString(b), x.lifts(b[0], b[1], b[2], b[3]), -2);
    due.is("far out", x.lifts(1000, -1000, 20, 100000), 0);
    due.is("the most seal", x.lifts(0, 0, 20, 100000), 1);
  }

  /** A part told over twice: its AREA is 14400, and squares of the greatest seal run over a long. */
  private static void liftsBig() {
    due.run("lifts with a big part");
    GripBench x = Told.part(-30, -30, 30, -30, 30, 30, -30, 30, -30, -30, 30, -30, 30, 30, -30, 30);
    due.is("middle(0)", x.middle(0), 14400);
    int[] seals = {4800, 40000, 56000, 70000, 80000, 90000, 99999, 100000};
    for (int s : seals) due.is("lifts with " + s, x.lifts(240, 0, 20, s), 1);
    due.is("lifts with 4799", x.lifts(240, 0, 20, 4799), 0);
    due.is("seal", x.seal(240, 0, 20), 4800);
  }

  private static void seal() {
    due.run("seal");
    GripBench x = Told.square();
    due.is("in the middle", x.seal(40, 40, 20), 0);
    due.is("3 and 4 away", x.seal(43, 44, 1), 5);
    due.is("3 and 4 away with 20", x.seal(43, 44, 20), 100);
    due.is("1 and 1 away", x.seal(41, 41, 1), 2);
    due.is("1 and 1 away with 20", x.seal(41, 41, 20), 29);
    due.is("at a corner", x.seal(0, 80, 20), 1132);
    x = new GripBench();
    due.is("a third away", x.seal(27, 27, 1), 1);
    due.is("a third away with 20", x.seal(27, 27, 20), 10);
    x = Told.part(-30, -30, 30, 30, 29, 30);
    // The MIDDLE is 232 thirds, 80: the way is 952 thirds and 960 thirds, so 1352 thirds.
    due.is("a far corner", x.seal(-240, -240, 3), 1352);
    due.is("a far corner with 20", x.seal(-240, -240, 20), 9014);
  }

  private static void sealIsLeast() {
    due.run("seal is the least with which it lifts");
    GripBench x = Told.part(0, 0, 6, 0, 6, 2, 2, 2, 2, 6, 0, 6);
    for (int px = 0; px <= 48; px += 7) {
      for (int py = 0; py <= 48; py += 5) {
        for (int w = 1; w <= 20; w += 3) {
          int s = x.seal(px, py, w);
          due.yes("in or not", s == -3 == (x.isIn(px, py) == 0));
          if (s >= 0) due.is("with it", x.lifts(px, py, w, s), 1);
          if (s > 0) due.is("with less", x.lifts(px, py, w, s - 1), 0);
        }
      }
    }
  }

  private static void sealRefused() {
    due.run("seal refused");
    GripBench x = Told.square();
    int[][] bad = {{1001, 0, 1}, {-1001, 0, 1}, {0, 1001, 1}, {0, -1001, 1}, {40, 40, 0}, {40, 40, 21}, {500, 0, 0}};
    for (int[] b : bad) due.is("seal of " + java.util.Arrays.toString(b), x.seal(b[0], b[1], b[2]), -2);
    due.is("out", x.seal(81, 40, 1), -3);
    due.is("far out", x.seal(1000, 1000, 20), -3);
    due.is("on the rim", x.seal(80, 40, 1), 40);
  }
}
