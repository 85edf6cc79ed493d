import java.util.function.Supplier;

/**
 * Every call that can be refused: the last number taken and the first refused at both ends, which refusal is the
 * first that fits, and that a refusal changes nothing else; asked of benches with nothing, something and all told.
 */
public final class RefusalsTest {
  private static final Due due = new Due();
  private static final int LEAST = Integer.MIN_VALUE;
  private static final int MOST = Integer.MAX_VALUE;

  public static void main(String[] args) {
    allStates(States::fresh, "a new object");
    allStates(States::some, "some told");
    allStates(States::full, "all told");
    fresh();
    some();
    full();
    holding();
    due.end();
  }

  // ---- BAD: a number not as told, no such thing

  private static void allStates(Supplier<GripBench> told, String name) {
    due.run("BAD, " + name);
    GripBench x = told.get();
    int edge = x.count(0) - 1, finger = x.count(1) - 1, grip = x.count(5) - 1, part = x.count(8) - 1;
    int triple = (x.count(2) == 0 ? 1 : 2) * x.count(1) - 1;
    Twins twins = new Twins(due, told);
    beyond(twins, -2, Call.of("shape", 1, 3), 0, 3, 3, 10);
    beyond(twins, -1000, Call.of("corner", 0, 0), 0, edge, 0, 1);
    beyond(twins, -1000000, Call.of("middle", 0), 0, 2);
    beyond(twins, -2, Call.of("isIn", 0, 0), -1000, 1000, -1000, 1000);
    beyond(twins, -2, Call.of("finger", 0, 0), 0, edge, 0, 8);
    beyond(twins, -2, Call.of("move", 0, 0, 0), 0, finger, 0, edge, 0, 8);
    beyond(twins, -2, Call.of("friction", 1), 0, 16);
    beyond(twins, Told.LEAST + 2, Call.of("push", 0, 0), 0, triple, 0, 2);
    beyond(twins, Told.LEAST + 2, Call.of("witness", 0), 0, 2);
    beyond(twins, -2, Call.of("free", 0), 0, finger);
    beyond(twins, -2, Call.of("spot", 0, 0, 0), 0, edge, 0, 8, 0, 1000);
    beyond(twins, -2, Call.of("lifts", 40, 40, 1, 0), -1000, 1000, -1000, 1000, 1, 20, 0, 100000);
    beyond(twins, -2, Call.of("seal", 40, 40, 1), -1000, 1000, -1000, 1000, 1, 20);
    beyond(twins, -2, Call.of("probe", 0, 0), -40, 40, -40, 40);
    beyond(twins, -2, Call.of("pose", 0), 0, x.poses() - 1);
    beyond(twins, -2, Call.of("link", 1, 2, 1), 0, grip, 0, grip, 1, 1000);
    beyond(twins, -2, Call.of("way", 0, 0), 0, grip, 0, grip);
    beyond(twins, -2, Call.of("on", 1, 2), 0, part, 0, part);
    beyond(twins, -2, Call.of("pick", 0), 0, part);
    beyond(twins, -2, Call.of("reach", 0), 0, part);
    beyond(twins, -2, Call.of("sheet", 0, 0, 1), 0, 3, 0, 2);
    for (int n : new int[] {61, MOST}) twins.refused(Call.of("sheet", 0, 0, n), -2);
    beyond(twins, -2, Call.of("lose", 0), 0, 3);
    beyond(twins, -2, Call.of("put", 0, 0, 0, 1), 0, 3, 0, 2);
    beyond(twins, LEAST, Call.of("get", 0, 0, 0), 0, 3, 0, 2);
    sheetsOfCopy(twins);
    beyond(twins, -2, Call.of("count", 0), 0, 8);
    for (int a = -1; a <= 12; a++) {
      if (a < 11) twins.refused(Call.of("link", a, a, 1), -2);
      twins.refused(Call.of("on", a, a), -2);
    }
  }

  private static void sheetsOfCopy(Twins twins) {
    int[] beyond = {-1, 4, LEAST, MOST};
    for (int s : beyond) {
      twins.refused(Call.of("copy", s, 0, 0, 0, 0), -2);
      twins.refused(Call.of("copy", 0, 0, s, 0, 0), -2);
      twins.refused(Call.of("copy", s, -1, s, -1, -1), -2);
    }
  }

  /** Each number in its turn below what it may be, and above: with the rest as given, and with all the rest so. */
  private static void beyond(Twins twins, long bad, Call call, int... bounds) {
    Call all = call;
    for (int at = 0; 2 * at < bounds.length; at++) {
      int least = bounds[2 * at], most = bounds[2 * at + 1];
      for (int number : new int[] {least - 1, most + 1, LEAST, MOST}) twins.refused(call.with(at, number), bad);
      all = all.with(at, most + 1);
      twins.refused(all, bad);
    }
  }

  // ---- NOT, FULL, FINDINGS, and which is the first

  private static void fresh() {
    due.run("refused, a new object");
    Twins twins = new Twins(due, States::fresh);
    twins.refused(Call.of("witness", 0), Told.LEAST + 3);
    twins.refused(Call.of("take"), -3);
    twins.refused(Call.of("seal", 81, 0, 1), -3);
    twins.refused(Call.of("seal", 1000, -1000, 20), -3);
    for (int s = 0; s < 4; s++) {
      twins.refused(Call.of("shape", s, 3), -11, 1);
      twins.refused(Call.of("lose", s), -11, 1);
      for (int form = 0; form < 3; form++) {
        twins.refused(Call.of("put", s, form, -1, 0), -11, 1);
        twins.refused(Call.of("put", s, form, 0, 0), -11, 1);
        twins.refused(Call.of("get", s, form, 60), LEAST, 1);
        twins.refused(Call.of("sheet", s, form, -1), -15, 5);
        twins.refused(Call.of("sheet", s, form, LEAST), -15, 5);
      }
      for (int t = 0; t < 4; t++) {
        twins.refused(Call.of("copy", s, 0, t, 0, 0), -11, 1);
        twins.refused(Call.of("copy", s, -1, t, -1, -1), -11, 1);
      }
    }
    // BAD fits first: of the number ahead of NULL, of the FORM ahead of SIZE.
    twins.refused(Call.of("shape", 0, 2), -2);
    twins.refused(Call.of("shape", 0, 11), -2);
    twins.refused(Call.of("sheet", 0, 3, -1), -2);
    twins.refused(Call.of("sheet", 4, 0, -1), -2);
    twins.refused(Call.of("put", 0, 3, 0, 0), -2);
    twins.refused(Call.of("get", 0, 3, 0), LEAST);
    twins.refused(Call.of("seal", 81, 0, 0), -2);
    twins.refused(Call.of("seal", 81, 0, 21), -2);
    twins.refused(Call.of("witness", 3), Told.LEAST + 2);
  }

  private static void some() {
    due.run("refused, some told");
    Twins twins = new Twins(due, States::some);
    twins.refused(Call.of("shape", 1, 4), -3);
    twins.refused(Call.of("shape", 0, 3), -12, 2);
    twins.refused(Call.of("shape", 2, 3), -12, 2);
    twins.refused(Call.of("shape", 3, 3), -11, 1);
    // INDEX ahead of NOT: 31 is one of the 8 items that there are of 10.
    twins.refused(Call.of("shape", 1, 5), -12, 2);
    twins.refused(Call.of("pick", 0), -3);
    twins.refused(Call.of("pick", 1), -3);
    twins.refused(Call.of("pick", 3), -3);
    twins.refused(Call.of("pick", 5), -3);
    twins.refused(Call.of("reach", 5), -3);
    twins.refused(Call.of("reach", 3), -1);
    twins.refused(Call.of("way", 0, 3), -1);
    int[] beyond = {-1, 3, LEAST, MOST};
    for (int i : beyond) {
      twins.refused(Call.of("put", 0, 2, i, 9), -12, 2);
      twins.refused(Call.of("put", 0, 1, i, 9), -13, 3);
      twins.refused(Call.of("put", 0, 3, i, 9), -2);
      twins.refused(Call.of("put", 3, 2, i, 9), -11, 1);
      twins.refused(Call.of("get", 0, 2, i), LEAST, 2);
      twins.refused(Call.of("get", 0, 0, i), LEAST, 3);
      twins.refused(Call.of("get", 3, 0, i), LEAST, 1);
      twins.refused(Call.of("put", 2, 1, i, 9), -12, 2);
    }
    twins.refused(Call.of("put", 0, 0, 0, 9), -13, 3);
    twins.refused(Call.of("put", 2, 1, 0, 9), -12, 2);
    twins.refused(Call.of("get", 2, 1, 0), LEAST, 2);
    copyOfSome(twins);
  }

  private static void copyOfSome(Twins twins) {
    int[] beyond = {-1, LEAST, MOST};
    for (int i : beyond) {
      twins.refused(Call.of("copy", 0, i, 0, 0, 0), -12, 2);
      twins.refused(Call.of("copy", 0, 0, 0, i, 0), -12, 2);
      twins.refused(Call.of("copy", 0, 0, 0, 0, i), -12, 2);
      twins.refused(Call.of("copy", 0, i, 0, i, i), -12, 2);
      // STORE ahead of INDEX, NULL ahead of both.
      twins.refused(Call.of("copy", 0, i, 1, i, i), -14, 4);
      twins.refused(Call.of("copy", 0, i, 3, i, i), -11, 1);
      twins.refused(Call.of("copy", 3, i, 0, i, i), -11, 1);
    }
    int[][] tooMany = {{4, 0, 0}, {0, 4, 0}, {3, 0, 1}, {0, 3, 1}, {1, 0, 3}, {0, 1, 3}, {0, 0, 4}, {2, 2, 2}};
    for (int[] c : tooMany) twins.refused(Call.of("copy", 0, c[0], 0, c[1], c[2]), -12, 2);
    twins.refused(Call.of("copy", 0, 0, 1, 0, 0), -14, 4);
    twins.refused(Call.of("copy", 1, 0, 2, 0, 0), -14, 4);
    twins.refused(Call.of("copy", 2, 0, 2, 0, 1), -12, 2);
    twins.refused(Call.of("copy", 2, 1, 2, 0, 0), -12, 2);
    twins.refused(Call.of("sheet", 0, 0, -1), -15, 5);
    twins.refused(Call.of("sheet", 3, 2, LEAST), -15, 5);
  }

  private static void full() {
    due.run("refused, all told");
    Twins twins = new Twins(due, States::full);
    twins.refused(Call.of("finger", 0, 0), -4);
    twins.refused(Call.of("finger", 9, 8), -4);
    twins.refused(Call.of("spot", 0, 0, 0), -4);
    twins.refused(Call.of("spot", 9, 8, 1000), -4);
    twins.refused(Call.of("probe", 0, 0), -4);
    twins.refused(Call.of("probe", -40, 40), -4);
    twins.refused(Call.of("grip"), -4);
    twins.refused(Call.of("drop"), -4);
    twins.refused(Call.of("slip"), -3);
    twins.refused(Call.of("pick", 11), -3);
    twins.refused(Call.of("pick", 9), -3);
    twins.refused(Call.of("reach", 11), -3);
    twins.refused(Call.of("shape", 0, 3), -3);
    twins.refused(Call.of("shape", 0, 10), -3);
    for (int s = 0; s < 4; s++) {
      twins.refused(Call.of("put", s, s % 3, 60, 9), -12, 2);
      twins.refused(Call.of("put", s, s % 3, -1, 9), -12, 2);
      twins.refused(Call.of("put", s, (s + 1) % 3, 0, 9), -13, 3);
      twins.refused(Call.of("copy", s, 1, s, 0, 60), -12, 2);
      twins.refused(Call.of("copy", s, 0, s, 1, 60), -12, 2);
      twins.refused(Call.of("copy", s, 0, s, 0, 61), -12, 2);
      twins.refused(Call.of("copy", s, 61, s, 0, 0), -12, 2);
      twins.refused(Call.of("copy", s, 0, s, 61, 0), -12, 2);
    }
    twins.refused(Call.of("copy", 0, 60, 3, 0, 1), -12, 2);
    twins.refused(Call.of("copy", 3, 0, 0, 60, 1), -12, 2);
  }

  /** FINGERS that HOLD have no WITNESS; those that lie in one plane have none either. */
  private static void holding() {
    due.run("refused, FINGERS that hold");
    Twins twins = new Twins(due, () -> Told.fingers(Told.square(), 0, 2, 1, 6, 2, 2, 3, 6));
    for (int part = 0; part < 3; part++) twins.refused(Call.of("witness", part), Told.LEAST + 3);
    twins.refused(Call.of("take"), -3);
    due.run("refused, FINGERS in one plane");
    twins = new Twins(due, () -> Told.fingers(Told.square(), 0, 4, 1, 4, 2, 4, 3, 4));
    for (int part = 0; part < 3; part++) twins.refused(Call.of("witness", part), Told.LEAST + 3);
    twins.refused(Call.of("slip"), -1);
    due.run("refused, SPOTS that do not hold");
    twins = new Twins(due, () -> {
      GripBench x = Told.fingers(Told.square(), 0, 2, 1, 6);
      x.spot(0, 2, 5);
      x.spot(1, 6, 5);
      return x;
    });
    twins.refused(Call.of("take"), -3);
    twins.refused(Call.of("cheapest"), -1);
  }
}
