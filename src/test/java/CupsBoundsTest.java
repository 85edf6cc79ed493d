/** The sentences about CUPS that name a bound: promises 18, 19. */
public final class CupsBoundsTest {
  private static final Due due = new Due();
  private static final int LEAST = Integer.MIN_VALUE;
  private static final int MOST = Integer.MAX_VALUE;

  public static void main(String[] args) {
    places();
    weights();
    seals();
    inOrOnRim();
    atMostSeal();
    leastSeal();
    badAheadOfNot();
    farthestPart();
    due.end();
  }

  /** "(in eighths, -1000 to 1000 each)". */
  private static void places() {
    due.run("18, 19: -1000 to 1000 each");
    GripBench x = Told.part(-30, -30, 30, -30, 30, 30, -30, 30);
    int[] ends = {-1000, 1000};
    for (int end : ends) {
      due.is("lifts(" + end + ", 0)", x.lifts(end, 0, 1, 100000), 0);
      due.is("lifts(0, " + end + ")", x.lifts(0, end, 1, 100000), 0);
      due.is("seal(" + end + ", 0)", x.seal(end, 0, 1), -3);
      due.is("seal(0, " + end + ")", x.seal(0, end, 1), -3);
    }
    int[] beyond = {-1001, 1001, LEAST, MOST, 65536};
    for (int b : beyond) {
      due.is("lifts(" + b + ", 0)", x.lifts(b, 0, 1, 100000), -2);
      due.is("lifts(0, " + b + ")", x.lifts(0, b, 1, 100000), -2);
      due.is("seal(" + b + ", 0)", x.seal(b, 0, 1), -2);
      due.is("seal(0, " + b + ")", x.seal(0, b, 1), -2);
    }
  }

  /** "a WEIGHT w (1 to 20)". */
  private static void weights() {
    due.run("18, 19: 1 to 20");
    GripBench x = Told.square();
    for (int w = 1; w <= 20; w++) {
      due.is("lifts with " + w, x.lifts(43, 44, w, 5 * w), 1);
      due.is("lifts with " + w + " and less", x.lifts(43, 44, w, 5 * w - 1), 0);
      due.is("seal with " + w, x.seal(43, 44, w), 5 * w);
    }
    int[] bad = {0, 21, -1, LEAST, MOST, 257};
    for (int w : bad) {
      due.is("lifts with " + w, x.lifts(43, 44, w, 100000), -2);
      due.is("seal with " + w, x.seal(43, 44, w), -2);
    }
  }

  /** "a SEAL s (0 to 100000)". */
  private static void seals() {
    due.run("18: 0 to 100000");
    GripBench x = Told.square();
    due.is("0 at the MIDDLE", x.lifts(40, 40, 20, 0), 1);
    due.is("0 beside the MIDDLE", x.lifts(41, 40, 1, 0), 0);
    due.is("1 beside the MIDDLE", x.lifts(41, 40, 1, 1), 1);
    due.is("100000", x.lifts(80, 80, 20, 100000), 1);
    int[] bad = {-1, 100001, LEAST, MOST};
    for (int s : bad) {
      due.is("lifts with " + s, x.lifts(40, 40, 1, s), -2);
      due.is("lifts out of the PART with " + s, x.lifts(900, 40, 1, s), -2);
    }
  }

  /** "if it is in the PART or on its rim". */
  private static void inOrOnRim() {
    due.run("18, 19: in the PART or on its rim");
    int[][] asked = {
      {0, 0, 1}, {80, 0, 1}, {80, 80, 1}, {0, 80, 1}, {40, 0, 1}, {80, 40, 1}, {1, 1, 1}, {79, 79, 1}, {81, 40, 0},
      {40, 81, 0}, {-1, 40, 0}, {40, -1, 0}, {-1, -1, 0}, {81, 80, 0}, {80, 81, 0}
    };
    for (int[] a : asked) {
      GripBench x = Told.square();
      due.is("lifts at " + a[0] + ", " + a[1], x.lifts(a[0], a[1], 1, 100000), a[2]);
      due.yes("seal at " + a[0] + ", " + a[1], x.seal(a[0], a[1], 1) == -3 == (a[2] == 0));
    }
    // The MIDDLE of this one lies out of it: with all the SEAL there is it does not lift there.
    GripBench x = Told.part(0, 0, 10, 0, 10, 1, 1, 1, 1, 9, 10, 9, 10, 10, 0, 10);
    due.is("out of it at the MIDDLE", x.lifts(30, 40, 1, 100000), 0);
    due.is("seal there", x.seal(30, 40, 1), -3);
    due.yes("at its back", x.seal(8, 40, 1) > 0);
  }

  /** "at most s (in eighths; compared exactly by squares)": where the root is whole, and where it is not. */
  private static void atMostSeal() {
    due.run("18: at most s");
    GripBench x = Told.square();
    int[][] told = {{45, 52, 13}, {48, 55, 17}, {32, 46, 10}, {40, 0, 40}, {10, 0, 50}, {16, 8, 40}};
    for (int[] t : told) {
      for (int w = 1; w <= 20; w++) {
        due.is("just enough", x.lifts(t[0], t[1], w, w * t[2]), 1);
        due.is("one too little", x.lifts(t[0], t[1], w, w * t[2] - 1), 0);
      }
    }
    // 1 and 1 away: w times the root of 2; by squares 2 w w and s s.
    for (int w = 1; w <= 20; w++) {
      for (int s = 0; s <= 30; s++) due.is("w " + w + ", s " + s, x.lifts(41, 39, w, s), s * s >= 2 * w * w ? 1 : 0);
    }
    // The MIDDLE of the triangle is 80 thirds each way: 3 times the way is 1 and 1 at 27, 27, and 2 and 1 at 26, 27.
    x = new GripBench();
    for (int w = 1; w <= 20; w++) {
      for (int s = 0; s <= 20; s++) {
        due.is("a third, w " + w + ", s " + s, x.lifts(27, 27, w, s), 9 * s * s >= 2 * w * w ? 1 : 0);
        due.is("two thirds, w " + w + ", s " + s, x.lifts(26, 27, w, s), 9 * s * s >= 5 * w * w ? 1 : 0);
      }
    }
  }

  private static void leastSeal() {
    due.run("19: the least SEAL");
    int[][] parts = {{0, 0, 10, 0, 0, 10}, {0, 0, 7, 0, 7, 3}, {-30, -30, 30, 30, 29, 30}, {0, 0, 1, 0, 0, 1}};
    for (int[] part : parts) {
      GripBench x = Told.part(part);
      for (int i = 0; i < 6; i += 2) {
        for (int w = 1; w <= 20; w += 19) {
          int s = x.seal(8 * part[i], 8 * part[i + 1], w);
          due.is("it lifts", x.lifts(8 * part[i], 8 * part[i + 1], w, s), 1);
          due.is("it does not with less", x.lifts(8 * part[i], 8 * part[i + 1], w, s - 1), 0);
        }
      }
    }
    GripBench x = Told.square();
    due.is("none needed", x.seal(40, 40, 1), 0);
    due.is("none needed with 20", x.seal(40, 40, 20), 0);
    due.is("the least but none", x.seal(41, 40, 1), 1);
    x = new GripBench();
    due.is("a third is 1", x.seal(27, 27, 1), 1);
    due.is("a third of 3 is 2", x.seal(27, 27, 3), 2);
  }

  /** "BAD; NOT: it is not in the PART, nor on its rim": where both fit, BAD. */
  private static void badAheadOfNot() {
    due.run("19: BAD ahead of NOT");
    GripBench x = Told.square();
    due.is("out", x.seal(81, 81, 1), -3);
    due.is("out with 0", x.seal(81, 81, 0), -2);
    due.is("out with 21", x.seal(81, 81, 21), -2);
    due.is("far out", x.seal(1001, 81, 1), -2);
    due.is("count(6)", x.count(6), 0);
  }

  /** The greatest way there is in a PART that does not cross itself; squares run far over an int. */
  private static void farthestPart() {
    due.run("18, 19: the farthest");
    GripBench x = Told.part(-30, -30, 30, -30, 30, 30, -30, 30);
    // 240 times the root of 2, times 20, is 6788 and a bit.
    due.is("seal", x.seal(240, 240, 20), 6789);
    due.is("lifts", x.lifts(-240, 240, 20, 6789), 1);
    due.is("lifts with less", x.lifts(-240, 240, 20, 6788), 0);
    due.is("lifts with the most", x.lifts(-240, -240, 20, 100000), 1);
  }
}
