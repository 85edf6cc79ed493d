/** Promises 26 to 30: drop, on, pick, reach, stuck. */
public final class BinTest {
  private static final Due due = new Due();

  public static void main(String[] args) {
    drop();
    on();
    pick();
    reach();
    throughTaken();
    rings();
    reachAll();
    due.end();
  }

  private static GripBench bin(int n) {
    GripBench x = new GripBench();
    for (int i = 0; i < n; i++) x.drop();
    return x;
  }

  private static void drop() {
    due.run("drop");
    GripBench x = new GripBench();
    for (int i = 0; i < 12; i++) {
      due.is("drop()", x.drop(), i);
      if (i == 3) due.is("pick(0)", x.pick(0), 1);
    }
    due.is("drop()", x.drop(), -4);
    due.is("count(7)", x.count(7), 11);
    due.is("count(8)", x.count(8), 12);
    due.is("pick(11)", x.pick(11), 1);
    due.is("drop()", x.drop(), -4);
    due.is("pick(12)", x.pick(12), -2);
  }

  private static void on() {
    due.run("on");
    GripBench x = bin(3);
    int[][] bad = {{-1, 0}, {3, 0}, {0, -1}, {0, 3}, {1, 1}};
    for (int[] b : bad) due.is("on(" + b[0] + ", " + b[1] + ")", x.on(b[0], b[1]), -2);
    due.is("on(2, 0)", x.on(2, 0), 1);
    due.is("on(2, 0) again", x.on(2, 0), 1);
    due.is("on(2, 1)", x.on(2, 1), 1);
    due.is("pick(0)", x.pick(0), -3);
    due.is("pick(1)", x.pick(1), -3);
    due.is("pick(2)", x.pick(2), 1);
    due.is("on(2, 0) when it was taken", x.on(2, 0), 1);
    due.is("on(0, 2) when it was taken", x.on(0, 2), 1);
    due.is("pick(0)", x.pick(0), 1);
    due.is("pick(1)", x.pick(1), 1);
  }

  private static void pick() {
    due.run("pick");
    GripBench x = bin(3);
    due.is("pick(-1)", x.pick(-1), -2);
    due.is("pick(3)", x.pick(3), -2);
    x.on(1, 0);
    x.on(2, 0);
    due.is("under two", x.pick(0), -3);
    due.is("pick(1)", x.pick(1), 1);
    due.is("pick(1) again", x.pick(1), -3);
    due.is("under one", x.pick(0), -3);
    due.is("count(7)", x.count(7), 2);
    due.is("pick(2)", x.pick(2), 1);
    due.is("under none", x.pick(0), 1);
    due.is("count(7)", x.count(7), 0);
    due.is("count(8)", x.count(8), 3);
  }

  private static void reach() {
    due.run("reach");
    GripBench x = bin(6);
    due.is("reach(-1)", x.reach(-1), -2);
    due.is("reach(6)", x.reach(6), -2);
    x.on(1, 0);
    x.on(2, 0);
    x.on(3, 1);
    x.on(3, 2);
    x.on(4, 3);
    int[] counts = {5, 3, 3, 2, 1, 1};
    for (int a = 0; a < 6; a++) due.is("reach(" + a + ")", x.reach(a), counts[a]);
    due.is("they stay", x.count(7), 6);
    due.is("pick(4)", x.pick(4), 1);
    due.is("reach(4)", x.reach(4), -3);
    due.is("reach(0)", x.reach(0), 4);
    due.is("stuck()", x.stuck(), 0);
  }

  /** What lies on one that was TAKEN does not lie on what that one lay on. */
  private static void throughTaken() {
    due.run("through one that was taken");
    GripBench x = bin(3);
    x.on(1, 0);
    due.is("pick(1)", x.pick(1), 1);
    x.on(2, 1);
    due.is("reach(0)", x.reach(0), 1);
    due.is("reach(1)", x.reach(1), -3);
    x.on(1, 2);
    due.is("stuck()", x.stuck(), 0);
    due.is("reach(2)", x.reach(2), 1);
    due.is("pick(0)", x.pick(0), 1);
  }

  private static void rings() {
    due.run("rings");
    GripBench x = bin(7);
    x.on(1, 0);
    x.on(2, 1);
    x.on(3, 2);
    x.on(1, 3);
    x.on(4, 3);
    x.on(0, 5);
    int stuck = 1 + 2 + 4 + 8 + 32;
    due.is("stuck()", x.stuck(), stuck);
    int[] counts = {-1, -1, -1, -1, 1, -1, 1};
    for (int a = 0; a < 7; a++) due.is("reach(" + a + ")", x.reach(a), counts[a]);
    due.is("pick(4)", x.pick(4), 1);
    due.is("stuck()", x.stuck(), stuck);
    for (int a = 0; a < 4; a++) due.is("pick(" + a + ")", x.pick(a), -3);
    x = bin(2);
    x.on(0, 1);
    x.on(1, 0);
    due.is("two on each other", x.stuck(), 3);
    due.is("an empty bin", new GripBench().stuck(), 0);
  }

  private static void reachAll() {
    due.run("a tower of twelve");
    int[] tower = {7, 0, 11, 3, 8, 1, 10, 5, 2, 9, 4, 6};
    GripBench x = bin(12);
    for (int i = 0; i + 1 < 12; i++) x.on(tower[i + 1], tower[i]);
    for (int i = 0; i < 12; i++) due.is("reach(" + tower[i] + ")", x.reach(tower[i]), 12 - i);
    due.is("stuck()", x.stuck(), 0);
    x.on(tower[0], tower[11]);
    due.is("stuck() as a ring", x.stuck(), 4095);
    for (int i = 0; i < 12; i++) due.is("reach(" + i + ")", x.reach(i), -1);
    x = bin(12);
    for (int i = 11; i > 0; i--) x.on(tower[i - 1], tower[i]);
    for (int i = 0; i < 12; i++) due.is("the other way", x.reach(tower[i]), i + 1);
    for (int i = 0; i < 12; i++) due.is("pick(" + tower[i] + ")", x.pick(tower[i]), 1);
    due.is("count(7)", x.count(7), 0);
    x = bin(12);
    for (int i = 0; i + 1 < 12; i++) x.on(i + 1, i);
    due.is("the last on top, stuck()", x.stuck(), 0);
    for (int i = 0; i < 12; i++) due.is("the last on top", x.reach(i), 12 - i);
    x = bin(12);
    for (int i = 0; i + 1 < 12; i++) x.on(i, i + 1);
    due.is("the first on top, stuck()", x.stuck(), 0);
    for (int i = 0; i < 12; i++) due.is("the first on top", x.reach(i), i + 1);
  }
}
