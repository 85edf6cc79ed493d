/** The sentences about FINGERS that name a bound: promises 6 to 14. */
public final class FingersBoundsTest {
  private static final Due due = new Due();
  private static final long BAD = Told.LEAST + 2;
  private static final long NOT = Told.LEAST + 3;
  private static final int[] BEYOND_K = {-1, 9, Integer.MIN_VALUE, Integer.MAX_VALUE};
  private static final int[] FOUR_THAT_HOLD = {0, 2, 1, 6, 2, 2, 3, 6};

  public static void main(String[] args) {
    edgesAndEighths();
    eightAtMost();
    moveOfEach();
    releaseOfAll();
    frictionEnds();
    onePushOrTwo();
    pushOfEach();
    farthestPush();
    threeOfWhichNone();
    justBelowNone();
    noneBelowOrNoneAbove();
    firstOfAllPairs();
    partsOfWitness();
    freeBits();
    freeOfEach();
    slipEnds();
    slipIsCut();
    fourAtMost();
    due.end();
  }

  /** Promise 6: "on an EDGE at k (0 to 8)": each EDGE there is, with k 0 and 8. */
  private static void edgesAndEighths() {
    due.run("6: EDGE, k");
    for (int n = 3; n <= 10; n++) {
      GripBench x = Told.part(java.util.Arrays.copyOf(States.TEN_CORNERS, 2 * n));
      int[] edges = {0, n - 1};
      for (int edge : edges) {
        due.is("k 0", x.finger(edge, 0), x.count(1) - 1);
        due.is("k 8", x.finger(edge, 8), x.count(1) - 1);
        for (int k : BEYOND_K) due.is("k " + k, x.finger(edge, k), -2);
      }
      due.is("count(1)", x.count(1), 4);
      int[] none = {-1, n, n + 1, 10, Integer.MIN_VALUE, Integer.MAX_VALUE};
      for (int edge : none) for (int k = 0; k <= 8; k += 8) due.is("finger(" + edge + ")", x.finger(edge, k), -2);
      due.is("count(1)", x.count(1), 4);
    }
  }

  /** "8 FINGERS at most, numbered from 0". */
  private static void eightAtMost() {
    due.run("6: 8 at most");
    GripBench x = new GripBench();
    for (int i = 0; i < 8; i++) {
      due.is("count(1) ahead", x.count(1), i);
      due.is("finger", x.finger(i % 3, i), i);
      due.is("push of it", x.push(i, 0) == BAD ? 1 : 0, 0);
      due.is("push behind it", x.push(i + 1, 0), BAD);
    }
    due.is("the ninth", x.finger(0, 0), -4);
    due.is("the ninth again", x.finger(2, 8), -4);
    due.is("BAD fits first", x.finger(3, 0), -2);
    due.is("BAD fits first", x.finger(0, 9), -2);
    due.is("count(1)", x.count(1), 8);
    due.is("move of a full row", x.move(7, 0, 0), 1);
    due.is("still full", x.finger(0, 0), -4);
    due.is("release()", x.release(), 8);
    due.is("from 0 again", x.finger(0, 0), 0);
  }

  /** Promise 7: the first FINGER and the last of a row; none; one beyond. */
  private static void moveOfEach() {
    due.run("7: move");
    GripBench x = new GripBench();
    due.is("no FINGERS", x.move(0, 0, 0), -2);
    for (int size = 1; size <= 8; size++) {
      x.finger(0, 0);
      for (int finger = 0; finger < size; finger++) {
        due.is("move", x.move(finger, 2, 8 - finger), 1);
        due.is("k 8 less " + finger, x.push(finger, 2), -(8 * 10 - 10 * (8 - finger)) * 160);
      }
      int[] none = {-1, size, 8, 9, Integer.MIN_VALUE, Integer.MAX_VALUE};
      for (int finger : none) if (finger != size - 1) due.is("move(" + finger + ")", x.move(finger, 0, 0), -2);
      for (int k : BEYOND_K) due.is("k " + k, x.move(size - 1, 0, k), -2);
      due.is("EDGE 3", x.move(size - 1, 3, 0), -2);
      due.is("EDGE -1", x.move(size - 1, -1, 0), -2);
      due.is("count(1)", x.count(1), size);
    }
    due.is("to where it stands", x.move(0, 2, 8), 1);
    due.is("two at one place", x.move(1, 2, 8), 1);
    due.is("EDGE 0, k 0", x.move(0, 0, 0), 1);
    due.is("EDGE 2, k 8", x.move(0, 2, 8), 1);
    x.release();
    due.is("none again", x.move(0, 0, 0), -2);
  }

  private static void releaseOfAll() {
    due.run("8: release");
    for (int size = 0; size <= 8; size++) {
      GripBench x = new GripBench();
      for (int i = 0; i < size; i++) x.finger(i % 3, i);
      due.is("release()", x.release(), size);
      due.is("count(1)", x.count(1), 0);
      due.is("push(0, 0)", x.push(0, 0), BAD);
      due.is("free(0)", x.free(0), -2);
      due.is("slip()", x.slip(), -1);
      due.is("none", x.release(), 0);
      due.is("digest()", x.digest(), new GripBench().digest());
    }
  }

  /** "FRICTION f (told, 0 to 16; 0 at first)". */
  private static void frictionEnds() {
    due.run("9: 0 to 16");
    GripBench x = new GripBench();
    due.is("count(2) at first", x.count(2), 0);
    int was = 0;
    int[] told = {16, 0, 15, 1, 8, 8, 16, 16, 0, 0};
    for (int f : told) {
      due.is("friction(" + f + ")", x.friction(f), was);
      due.is("count(2)", x.count(2), f);
      was = f;
      int[] bad = {-1, 17, -16, 256, Integer.MIN_VALUE, Integer.MAX_VALUE};
      for (int b : bad) due.is("friction(" + b + ")", x.friction(b), -2);
      due.is("count(2) stays", x.count(2), f);
    }
  }

  /** "with f 0 the one 16 NORMAL"; with f above 0 two, the one with f ahead of the one less f. */
  private static void onePushOrTwo() {
    due.run("9: one PUSH or two");
    for (int f = 0; f <= 16; f++) {
      GripBench x = Told.fingers(Told.part(0, 0, 7, 0, 7, 3), 0, 3, 1, 5);
      x.friction(f);
      int each = f == 0 ? 1 : 2;
      for (int finger = 0; finger < 2; finger++) {
        int dx = finger == 0 ? 7 : 0, dy = finger == 0 ? 0 : 3;
        int px = finger == 0 ? 21 : 56, py = finger == 0 ? 0 : 15;
        for (int which = 0; which < each; which++) {
          int sign = which == 0 ? 1 : -1;
          long p = -16 * dy + sign * f * dx, q = 16 * dx + sign * f * dy;
          due.is("part 0 with " + f, x.push(each * finger + which, 0), p);
          due.is("part 1 with " + f, x.push(each * finger + which, 1), q);
          due.is("part 2 with " + f, x.push(each * finger + which, 2), px * q - py * p);
        }
      }
      due.is("no more", x.push(2 * each, 0), BAD);
    }
  }

  /** Promise 10: the last triple and the one behind it, part 0, 2 and beyond, of 0 to 8 FINGERS. */
  private static void pushOfEach() {
    due.run("10: t, part");
    for (int size = 0; size <= 8; size++) {
      for (int f = 0; f <= 16; f += 8) {
        GripBench x = new GripBench();
        x.friction(f);
        for (int i = 0; i < size; i++) x.finger(i % 3, i);
        int triples = f == 0 ? size : 2 * size;
        for (int part = 0; part < 3; part++) {
          for (int t = 0; t < triples; t++) due.yes("triple " + t, x.push(t, part) > BAD);
          int[] none = {-1, triples, triples + 1, 16, Integer.MIN_VALUE, Integer.MAX_VALUE};
          for (int t : none) due.is("push(" + t + ", " + part + ")", x.push(t, part), BAD);
        }
        int[] beyond = {-1, 3, Integer.MIN_VALUE, Integer.MAX_VALUE};
        for (int part : beyond) due.is("push(0, " + part + ")", x.push(0, part), BAD);
      }
    }
  }

  /** The greatest numbers: CORNERS at -30 and 30, FRICTION 16. */
  private static void farthestPush() {
    due.run("10: the farthest");
    GripBench x = Told.fingers(Told.part(-30, -30, 30, -30, 30, 30, -30, 30), 0, 8, 2, 0);
    x.friction(16);
    long[] told = {960, 960, 240 * 960 + 240 * 960, -960, 960, 240 * 960 - 240 * 960,
        -960, -960, 240 * -960 + 240 * 960, 960, -960, 240 * -960 - 240 * 960};
    for (int i = 0; i < 12; i++) due.is("push " + i, x.push(i / 3, i % 3), told[i]);
    due.is("two corners over against each other", x.holds(), 1);
    x.move(1, 2, 8);
    due.is("two corners askew", x.holds(), 0);
    // 960 960 460800 and -960 960 0: no triple is on the other side of these.
    due.is("witness(0)", x.witness(0), -460800L * 960);
    due.is("witness(1)", x.witness(1), -460800L * 960);
    due.is("witness(2)", x.witness(2), 960L * 960 + 960L * 960);
    x = Told.fingers(Told.part(-30, -30, 30, 30, 29, 30), 0, 8);
    x.friction(16);
    due.is("p", x.push(0, 0), -960 + 960);
    due.is("q", x.push(0, 1), 960 + 960);
    due.is("turn", x.push(0, 2), 240 * 1920);
    due.is("p less", x.push(1, 0), -960 - 960);
    due.is("turn less", x.push(1, 2), 240 * 1920);
  }

  /** "no three numbers ... whose product is 0 or above": none, one, FINGERS in a plane, and just on the half's rim. */
  private static void threeOfWhichNone() {
    due.run("11: HOLD");
    for (int size = 0; size <= 8; size++) {
      GripBench x = Told.square();
      x.friction(16);
      for (int i = 0; i < size; i++) x.finger(0, i);
      due.is(size + " on one EDGE", x.holds(), 0);
    }
    GripBench x = Told.fingers(Told.square(), 0, 4, 1, 4, 2, 4, 3, 4);
    due.is("four in a plane", x.holds(), 0);
    x.finger(0, 5);
    due.is("and one out of it", x.holds(), 0);
    x.finger(0, 3);
    due.is("and one on its other side", x.holds(), 1);
    // Two on sides 80 apart, 10 (k - 4) off: FRICTION, by 16, must be above that, by 80.
    for (int k = 4; k <= 8; k++) {
      for (int f = 0; f <= 16; f++) {
        x = Told.fingers(Told.square(), 0, 4, 2, 8 - k);
        x.friction(f);
        due.is("off by " + (k - 4) + " with " + f, x.holds(), f > 2 * (k - 4) ? 1 : 0);
      }
    }
  }

  /** "0 or above": the least that a product was found to be, but 0, is 8; where it is 8 below, that is below. */
  private static void justBelowNone() {
    due.run("11: just below 0");
    GripBench x = Told.fingers(Told.part(-1, -1, 0, 1, -1, 0, -1, 1), 2, 1, 1, 8, 0, 2);
    x.friction(5);
    due.is("by 8", x.holds(), 1);
    due.is("no WITNESS", x.witness(0), NOT);
    // Four whose lines go through 0, 0 turn by 0, the fifth by more: 0, 0, 1 has products of 0 and above.
    x = Told.fingers(Told.part(-1, -1, 1, -1, 1, 1, -1, 1), 0, 4, 1, 4, 2, 4, 3, 4, 0, 5);
    due.is("by none", x.holds(), 0);
    due.is("its turn", x.witness(2), 32L * 32);
  }

  /** Promise 12: c turned about where none has a product above 0, as it is where none has one below. */
  private static void noneBelowOrNoneAbove() {
    due.run("12: below, above");
    // 0 160 t twice makes c 160 (t2 - t1), 0, 0: EDGE 3 is on its one side, EDGE 1 on the other.
    int[][] told = {{2, 6, 3, 1}, {6, 2, 3, -1}, {2, 6, 1, 1}, {6, 2, 1, -1}};
    for (int[] t : told) {
      GripBench x = Told.fingers(Told.square(), 0, t[0], 0, t[1], t[2], 4);
      due.is("witness(0)", x.witness(0), t[2] == 3 ? 1024000 : -1024000);
      due.is("witness(1)", x.witness(1), 0);
      due.is("witness(2)", x.witness(2), 0);
    }
  }

  /** "u ahead of v, the least u, then the least v": found here by going through all pairs of push(). */
  private static void firstOfAllPairs() {
    due.run("12: the first two");
    int number = 7;
    int[] places = new int[17];
    for (int hand = 0; hand < 3000; hand++) {
      int size = 3 + hand % 6;
      GripBench x = hand % 3 == 0 ? new GripBench() : hand % 3 == 1 ? Told.square() : Told.part(States.TEN_CORNERS);
      for (int i = 0; i < size; i++) {
        number = number * 1103515245 + 12345;
        x.finger((number >>> 16) % Math.min(4, x.count(0)), (number >>> 24) % 9);
      }
      x.friction(hand % 5 == 0 ? hand % 17 : 0);
      long[] due3 = firstWitness(x, places);
      for (int part = 0; part < 3; part++) due.is("witness(" + part + ") of hand " + hand, x.witness(part), due3[part]);
      due.is("holds() of hand " + hand, x.holds(), due3[3]);
    }
    int seen = 0;
    for (int v = 1; v < places.length; v++) seen += places[v] > 0 ? 1 : 0;
    due.yes("several v were the first: " + seen, seen >= 6);
    due.yes("several u were the first", places[0] > 1);
  }

  /** The three parts that are due, and whether they hold; counts which v it was, and pairs with u above 0. */
  private static long[] firstWitness(GripBench x, int[] places) {
    int size = 0;
    while (x.push(size, 0) != BAD) size++;
    long[][] w = new long[size][3];
    for (int t = 0; t < size; t++) for (int part = 0; part < 3; part++) w[t][part] = x.push(t, part);
    boolean apart = false;
    for (int u = 0; u < size; u++) {
      for (int v = u + 1; v < size; v++) {
        long[] c = {
          w[u][1] * w[v][2] - w[u][2] * w[v][1], w[u][2] * w[v][0] - w[u][0] * w[v][2],
          w[u][0] * w[v][1] - w[u][1] * w[v][0]
        };
        int below = 0, above = 0;
        for (long[] t : w) {
          long product = c[0] * t[0] + c[1] * t[1] + c[2] * t[2];
          if (product < 0) below++;
          if (product > 0) above++;
        }
        apart |= below + above > 0;
        if (below + above > 0 && (below == 0 || above == 0)) {
          places[v]++;
          if (u > 0) places[0]++;
          long sign = below == 0 ? 1 : -1;
          return new long[] {sign * c[0], sign * c[1], sign * c[2], 0};
        }
      }
    }
    return new long[] {NOT, NOT, NOT, apart ? 1 : 0};
  }

  private static void partsOfWitness() {
    due.run("12: part");
    GripBench x = Told.fingers(Told.square(), 0, 2, 0, 6, 1, 2);
    int[] beyond = {-1, 3, Integer.MIN_VALUE, Integer.MAX_VALUE};
    for (int part : beyond) due.is("witness(" + part + ")", x.witness(part), BAD);
    due.is("witness(0)", x.witness(0), -1024000);
    due.is("witness(2)", x.witness(2), 0);
    x = Told.fingers(Told.square(), FOUR_THAT_HOLD);
    for (int part : beyond) due.is("BAD fits first, " + part, x.witness(part), BAD);
    for (int part = 0; part < 3; part++) due.is("NOT, " + part, x.witness(part), NOT);
    x = Told.square();
    for (int part : beyond) due.is("BAD fits first with none, " + part, x.witness(part), BAD);
    // Two FINGERS with FRICTION are three triples already; two without are not.
    x = Told.fingers(Told.square(), 0, 4, 1, 4);
    due.is("two triples", x.witness(0), NOT);
    x.friction(1);
    due.yes("four triples", x.witness(0) > NOT || x.witness(1) > NOT);
    x = Told.fingers(Told.square(), 0, 4);
    x.friction(16);
    due.is("one FINGER with FRICTION", x.witness(0), NOT);
  }

  /** "the k from 0 to 8 ... as bits": none of them, all, from 0 on, up to 8, and one alone. */
  private static void freeBits() {
    due.run("13: bits");
    GripBench x = Told.fingers(Told.square(), FOUR_THAT_HOLD);
    due.is("free(0)", x.free(0), 63);
    x = Told.fingers(Told.square(), 0, 4, 2, 4);
    x.friction(1);
    due.is("one alone", x.free(0), 16);
    x.move(0, 0, 0);
    due.is("all else as it is, not its own k", x.free(0), 16);
    x.move(1, 2, 8);
    due.is("0 alone", x.free(0), 1);
    x.move(1, 2, 0);
    due.is("8 alone", x.free(0), 256);
    x.friction(3);
    due.is("7 and 8", x.free(0), 256 + 128);
    x.move(1, 2, 8);
    due.is("0 and 1", x.free(0), 3);
    x.friction(0);
    due.is("none", x.free(0), 0);
    x = Told.fingers(new GripBench(), 0, 3, 1, 3, 2, 3);
    x.friction(16);
    due.is("all", x.free(0), 511);
    due.is("all but two", x.free(1), 511 - 3);
  }

  /** The first FINGER and the last of 1 to 8, and the one beyond; FREE changes nothing. */
  private static void freeOfEach() {
    due.run("13: free");
    due.is("none", new GripBench().free(0), -2);
    for (int size = 1; size <= 8; size++) {
      GripBench x = Told.square();
      for (int i = 0; i < size; i++) x.finger(i % 4, i % 2 == 0 ? 2 : 6);
      long was = x.digest();
      for (int i = 0; i < size; i++) {
        int bits = x.free(i);
        due.yes("bits", bits >= 0 && bits <= 511);
        due.is("where it stands", bits >> (i % 2 == 0 ? 2 : 6) & 1, x.holds());
      }
      int[] none = {-1, size, 8, 9, Integer.MIN_VALUE, Integer.MAX_VALUE};
      for (int i : none) due.is("free(" + i + ")", x.free(i), -2);
      due.is("digest() stays", x.digest(), was);
    }
  }

  /** "the greatest d (0 to 8)"; "NONE, if they do not HOLD". */
  private static void slipEnds() {
    due.run("14: 0 to 8");
    due.is("no FINGERS", Told.square().slip(), -1);
    GripBench x = Told.fingers(Told.square(), 0, 4, 2, 4);
    due.is("they do not hold", x.slip(), -1);
    x.friction(4);
    due.is("0", x.slip(), 0);
    x.friction(5);
    due.is("1", x.slip(), 1);
    // A bar of 1 by 30, held at its ends: wherever they stand on these, FRICTION holds it.
    x = Told.fingers(Told.part(0, 0, 30, 0, 30, 1, 0, 1), 1, 4, 3, 4);
    x.friction(1);
    due.is("8", x.slip(), 8);
    x.move(0, 1, 0);
    x.move(1, 3, 0);
    due.is("8 from corners", x.slip(), 8);
    // On a bar of 1 by 16 the same FRICTION just fails from corner to corner, which d 4 comes to.
    x = Told.fingers(Told.part(0, 0, 16, 0, 16, 1, 0, 1), 1, 4, 3, 4);
    x.friction(1);
    due.is("3", x.slip(), 3);
    x.friction(2);
    due.is("8 again", x.slip(), 8);
  }

  /** "(cut to 0 .. 8)": from k 0 and k 8 each FINGER slips one way alone. */
  private static void slipIsCut() {
    due.run("14: cut");
    int[][] stands = {{0, 8}, {8, 0}, {1, 7}, {7, 1}, {4, 4}, {0, 0}};
    for (int[] s : stands) {
      for (int f = 0; f <= 16; f++) {
        GripBench x = Told.fingers(Told.square(), 0, s[0], 2, s[1]);
        x.friction(f);
        int most = -1;
        for (int d = 0; d <= 8 && holdsAround(x, s, d); d++) most = d;
        x.move(0, 0, s[0]);
        x.move(1, 2, s[1]);
        due.is("slip of " + s[0] + ", " + s[1] + " with " + f, x.slip(), most);
        due.is("they stay", x.push(0, 2), 160L * 10 * s[0]);
      }
    }
  }

  private static boolean holdsAround(GripBench x, int[] s, int d) {
    for (int a = -1; a <= 1; a++) {
      for (int b = -1; b <= 1; b++) {
        x.move(0, 0, Math.max(0, Math.min(8, s[0] + a * d)));
        x.move(1, 2, Math.max(0, Math.min(8, s[1] + b * d)));
        if (x.holds() == 0) return false;
      }
    }
    return true;
  }

  /** "It is for 4 FINGERS at most": NOT above 4, whether they hold or not. */
  private static void fourAtMost() {
    due.run("14: 4 at most");
    GripBench x = Told.fingers(Told.square(), FOUR_THAT_HOLD);
    due.is("four", x.slip(), 1);
    for (int i = 5; i <= 8; i++) {
      x.finger(i % 4, 4);
      due.is(i + " that hold", x.slip(), -3);
    }
    x = Told.square();
    for (int i = 1; i <= 8; i++) {
      x.finger(0, 4);
      due.is(i + " that do not hold", x.slip(), i > 4 ? -3 : -1);
    }
  }
}
