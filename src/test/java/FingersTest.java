/** Promises 6 to 14: finger, move, release, friction, push, holds, witness, free, slip. */
public final class FingersTest {
  private static final Due due = new Due();
  private static final long BAD = Told.LEAST + 2;
  private static final long NOT = Told.LEAST + 3;

  public static void main(String[] args) {
    finger();
    move();
    release();
    friction();
    push();
    pushOfFriction();
    holds();
    witness();
    firstWitness();
    witnessRefused();
    witnessWithFriction();
    free();
    slip();
    due.end();
  }

  private static void finger() {
    due.run("finger");
    GripBench x = new GripBench();
    int[][] bad = {{-1, 0}, {3, 0}, {0, -1}, {0, 9}};
    for (int[] b : bad) due.is("finger(" + b[0] + ", " + b[1] + ")", x.finger(b[0], b[1]), -2);
    due.is("count(1)", x.count(1), 0);
    for (int i = 0; i < 8; i++) due.is("finger", x.finger(i % 3, i), i);
    due.is("finger(0, 0)", x.finger(0, 0), -4);
    due.is("finger(3, 0) is BAD ahead of FULL", x.finger(3, 0), -2);
    due.is("count(1)", x.count(1), 8);
    x = Told.square();
    due.is("finger(3, 8)", x.finger(3, 8), 0);
    due.is("finger(4, 8)", x.finger(4, 8), -2);
  }

  private static void move() {
    due.run("move");
    GripBench x = Told.fingers(new GripBench(), 0, 0, 0, 0);
    due.is("move(1, 2, 4)", x.move(1, 2, 4), 1);
    due.is("push(0, 0)", x.push(0, 0), 0);
    due.is("push(1, 0)", x.push(1, 0), 160);
    due.is("push(1, 1)", x.push(1, 1), 0);
    due.is("push(1, 2)", x.push(1, 2), -40 * 160);
    int[][] bad = {{-1, 0, 0}, {2, 0, 0}, {0, -1, 0}, {0, 3, 0}, {0, 0, -1}, {0, 0, 9}};
    for (int[] b : bad) due.is("move of " + b[0] + ", " + b[1] + ", " + b[2], x.move(b[0], b[1], b[2]), -2);
    due.is("it stays", x.push(0, 1), 160);
    due.is("count(1)", x.count(1), 2);
    due.is("move(0, 0, 8)", x.move(0, 0, 8), 1);
    due.is("push(0, 2)", x.push(0, 2), 80 * 160);
  }

  private static void release() {
    due.run("release");
    GripBench x = Told.fingers(new GripBench(), 0, 3, 1, 3, 2, 3);
    x.friction(16);
    due.is("holds()", x.holds(), 1);
    due.is("release()", x.release(), 3);
    due.is("holds()", x.holds(), 0);
    due.is("release()", x.release(), 0);
    due.is("count(1)", x.count(1), 0);
    due.is("friction stays", x.count(2), 16);
    due.is("finger(2, 2)", x.finger(2, 2), 0);
  }

  private static void friction() {
    due.run("friction");
    GripBench x = new GripBench();
    due.is("friction(16)", x.friction(16), 0);
    due.is("friction(17)", x.friction(17), -2);
    due.is("friction(-1)", x.friction(-1), -2);
    due.is("friction(1)", x.friction(1), 16);
    due.is("count(2)", x.count(2), 1);
    due.is("friction(0)", x.friction(0), 1);
    due.is("friction(0)", x.friction(0), 0);
  }

  private static void push() {
    due.run("push");
    GripBench x = Told.fingers(Told.part(-3, -4, 5, -6, 7, 8, -9, 10), 1, 3, 3, 5);
    // EDGE 1 goes 2, 14 from 5, -6: the place is 46, -6; EDGE 3 goes 6, -14 from -9, 10: it is -42, 10.
    long[] triples = {16 * -14, 16 * 2, 46 * 32 - -6 * -224, 16 * 14, 16 * 6, -42 * 96 - 10 * 224};
    for (int i = 0; i < 6; i++) due.is("push " + i, x.push(i / 3, i % 3), triples[i]);
    int[][] bad = {{2, 0}, {-1, 0}, {0, 3}, {0, -1}, {Integer.MAX_VALUE, 0}, {Integer.MIN_VALUE, 1}};
    for (int[] b : bad) due.is("push(" + b[0] + ", " + b[1] + ")", x.push(b[0], b[1]), BAD);
    due.is("push(0, 0)", new GripBench().push(0, 0), BAD);
  }

  private static void pushOfFriction() {
    due.run("push with friction");
    GripBench x = Told.fingers(Told.part(-3, -4, 5, -6, 7, 8, -9, 10), 1, 3, 3, 5);
    x.friction(5);
    int[][] pushes = {{-224 + 10, 32 + 70}, {-224 - 10, 32 - 70}, {224 + 30, 96 - 70}, {224 - 30, 96 + 70}};
    int[][] places = {{46, -6}, {46, -6}, {-42, 10}, {-42, 10}};
    for (int t = 0; t < 4; t++) {
      due.is("push(" + t + ", 0)", x.push(t, 0), pushes[t][0]);
      due.is("push(" + t + ", 1)", x.push(t, 1), pushes[t][1]);
      due.is("push(" + t + ", 2)", x.push(t, 2), places[t][0] * pushes[t][1] - places[t][1] * pushes[t][0]);
    }
    due.is("push(4, 0)", x.push(4, 0), BAD);
    x = Told.fingers(Told.square(), 0, 0, 0, 1, 0, 2, 0, 3, 0, 4, 0, 5, 0, 6, 3, 4);
    x.friction(2);
    long[] last = {160, -20, -6400, 160, 20, -6400};
    for (int i = 0; i < 6; i++) due.is("push of the eighth " + i, x.push(14 + i / 3, i % 3), last[i]);
    due.is("push(16, 0)", x.push(16, 0), BAD);
    x.friction(0);
    due.is("push(8, 0)", x.push(8, 0), BAD);
  }

  private static void holds() {
    due.run("holds");
    int[] four = {0, 2, 1, 6, 2, 2, 3, 6};
    due.is("two pairs that turn against each other", Told.fingers(Told.square(), four).holds(), 1);
    int[] sameWay = {0, 2, 1, 2, 2, 2, 3, 2};
    due.is("two pairs that turn the same way", Told.fingers(Told.square(), sameWay).holds(), 0);
    int[] middles = {0, 4, 1, 4, 2, 4, 3, 4};
    due.is("four through one place", Told.fingers(Told.square(), middles).holds(), 0);
    int[] doubled = {0, 4, 1, 4, 2, 4, 3, 4, 0, 4, 1, 4, 2, 4, 3, 4};
    due.is("eight through one place", Told.fingers(Told.square(), doubled).holds(), 0);
    int[] eight = {0, 0, 0, 8, 1, 0, 1, 8, 2, 0, 2, 8, 3, 0, 3, 8};
    due.is("eight at the corners", Told.fingers(Told.square(), eight).holds(), 1);
    due.is("none", Told.square().holds(), 0);
    GripBench x = Told.fingers(new GripBench(), 0, 4, 1, 4, 2, 4);
    due.is("three through one place", x.holds(), 0);
    x.friction(1);
    due.is("three with a little friction", x.holds(), 1);
    x = Told.fingers(new GripBench(), 0, 3, 1, 3, 2, 3);
    due.is("three that turn", x.holds(), 0);
    x.friction(16);
    due.is("three that turn with much friction", x.holds(), 1);
    x = Told.fingers(Told.square(), 0, 4, 2, 4);
    due.is("two over against each other", x.holds(), 0);
    x.friction(1);
    due.is("two with a little friction", x.holds(), 1);
    x.move(1, 2, 5);
    due.is("two a little off", x.holds(), 0);
    x.friction(3);
    due.is("two a little off with more friction", x.holds(), 1);
    x.friction(2);
    due.is("two whose pushes just meet", x.holds(), 0);
    x.release();
    x.friction(16);
    x.finger(0, 4);
    due.is("one", x.holds(), 0);
    x.finger(0, 4);
    x.finger(0, 4);
    due.is("one place thrice", x.holds(), 0);
    x.finger(0, 0);
    x.finger(0, 8);
    due.is("one edge", x.holds(), 0);
    x = Told.fingers(Told.part(0, 0, 0, 0, 10, 0, 0, 10), 0, 4, 1, 4, 2, 4, 3, 4);
    due.is("with one on an edge of no length", x.holds(), 0);
    x.friction(1);
    due.is("with it and friction", x.holds(), 1);
  }

  private static void witness() {
    due.run("witness");
    // 0, 160, 3200 and 0, 160, 9600 and -160, 0, 3200: the first two leave the third above or below.
    GripBench x = Told.fingers(Told.square(), 0, 2, 0, 6, 1, 2);
    long[] triples = {0, 160, 3200, 0, 160, 9600, -160, 0, 3200};
    for (int i = 0; i < 9; i++) due.is("push " + i, x.push(i / 3, i % 3), triples[i]);
    // The cross product of the first two is 1024000, 0, 0: the third's product is below 0, so it is turned.
    due.is("witness(0)", x.witness(0), -1024000);
    due.is("witness(1)", x.witness(1), 0);
    due.is("witness(2)", x.witness(2), 0);
    x = Told.fingers(Told.square(), 0, 2, 0, 6, 3, 6);
    due.is("push(2, 0)", x.push(2, 0), 160);
    due.is("witness(0)", x.witness(0), 1024000);
    due.is("witness(1)", x.witness(1), 0);
    due.is("witness(2)", x.witness(2), 0);
    // Two that press on one line come first: their cross product is 0 and tells nothing.
    x = Told.fingers(Told.square(), 0, 2, 2, 6, 1, 2, 3, 2);
    due.is("holds()", x.holds(), 0);
    due.is("witness", x.witness(0) == 0 && x.witness(1) == 0 && x.witness(2) == 0 ? 1 : 0, 0);
    noneBelow(x);
    // Four through 0, 0 and one beside: the one half is that of the turn alone.
    x = Told.fingers(Told.part(-5, -5, 5, -5, 5, 5, -5, 5), 0, 4, 1, 4, 2, 4, 3, 4, 0, 6);
    due.is("a turn, witness(0)", x.witness(0), 0);
    due.is("a turn, witness(1)", x.witness(1), 0);
    due.is("a turn, witness(2)", x.witness(2), 25600);
    due.is("a turn, holds()", x.holds(), 0);
    x.move(4, 0, 2);
    due.is("a turn back, witness(2)", x.witness(2), -25600);
  }

  /** The first pair in the row counts, though a later one would do as well. */
  private static void firstWitness() {
    due.run("the first witness");
    // -160 0 3200, 0 160 3200, 0 160 9600: with u 0, v 1 the third is on one side, above 0 or below.
    GripBench x = Told.fingers(Told.square(), 1, 2, 0, 2, 0, 6);
    due.is("witness(0)", x.witness(0), 512000);
    due.is("witness(1)", x.witness(1), -512000);
    due.is("witness(2)", x.witness(2), 25600);
    // 0 160 6400 has 0 160 3200 and 0 160 9600 about it: pairs with it at u are passed over, but for the last.
    x = Told.fingers(Told.square(), 0, 4, 0, 2, 0, 6, 1, 2);
    due.is("witness(0)", x.witness(0), -512000);
    due.is("witness(1)", x.witness(1), 0);
    due.is("witness(2)", x.witness(2), 0);
  }

  private static void noneBelow(GripBench x) {
    for (int t = 0; x.push(t, 0) != BAD; t++) {
      long product = 0;
      for (int part = 0; part < 3; part++) product += x.push(t, part) * x.witness(part);
      due.yes("product with triple " + t + " is " + product, product >= 0);
    }
  }

  private static void witnessRefused() {
    due.run("witness refused");
    GripBench x = Told.fingers(Told.square(), 0, 2, 1, 6, 2, 2, 3, 6);
    due.is("they hold", x.witness(0), NOT);
    due.is("witness(3) is BAD ahead of NOT", x.witness(3), BAD);
    due.is("witness(-1)", x.witness(-1), BAD);
    x.release();
    for (int i = 0; i < 3; i++) {
      for (int part = 0; part < 3; part++) due.is(i + " fingers", x.witness(part), NOT);
      x.finger(i, 3);
    }
    x = Told.fingers(Told.square(), 0, 4, 1, 4, 2, 4, 3, 4);
    due.is("in one plane", x.witness(0), NOT);
    x = Told.fingers(Told.square(), 0, 4, 0, 4, 0, 4);
    due.is("on one line", x.witness(0), NOT);
  }

  private static void witnessWithFriction() {
    due.run("witness with friction");
    GripBench x = Told.fingers(Told.square(), 0, 2, 0, 6);
    x.friction(8);
    // 80 160 3200, -80 160 3200, 80 160 9600, -80 160 9600: the first two have the rest on one side.
    long[] third = {80, 160, 9600};
    for (int part = 0; part < 3; part++) due.is("push(2, " + part + ")", x.push(2, part), third[part]);
    due.is("witness(0)", x.witness(0), 160L * 3200 - 3200L * 160);
    due.is("witness(1)", x.witness(1), -(3200L * 80 + 80L * 3200));
    due.is("witness(2)", x.witness(2), 80L * 160 + 160L * 80);
    noneBelow(x);
  }

  private static void free() {
    due.run("free");
    GripBench x = Told.fingers(Told.square(), 0, 2, 1, 6, 2, 2, 3, 6);
    for (int i = 0; i < 4; i++) {
      int bits = x.free(i);
      for (int k = 0; k <= 8; k++) {
        x.move(i, i, k);
        due.is("free(" + i + ") and " + k, bits >> k & 1, x.holds());
      }
      due.is("no more bits", bits >> 9, 0);
      x.move(i, i, i % 2 == 0 ? 2 : 6);
    }
    due.is("free(0)", x.free(0), 63);
    due.is("holds()", x.holds(), 1);
    due.is("free(4)", x.free(4), -2);
    due.is("free(-1)", x.free(-1), -2);
    x.move(0, 0, 8);
    due.is("from where they do not hold", x.free(0), 63);
    x.release();
    due.is("free(0) with none", x.free(0), -2);
    x.finger(0, 0);
    due.is("one alone", x.free(0), 0);
  }

  private static void slip() {
    due.run("slip");
    GripBench x = Told.square();
    due.is("none", x.slip(), -1);
    Told.fingers(x, 0, 2, 1, 6, 2, 2, 3, 6);
    due.is("four", x.slip(), 1);
    due.is("they stay", x.push(0, 2), 20 * 160);
    x.finger(0, 4);
    due.is("five", x.slip(), -3);
    x.release();
    for (int i = 0; i < 5; i++) x.finger(0, 2);
    due.is("five that do not hold", x.slip(), -3);
    x = Told.fingers(Told.square(), 0, 4, 2, 4);
    due.is("two that do not hold", x.slip(), -1);
    x.friction(1);
    due.is("two with a little friction", x.slip(), 0);
    // With d the two stand up to 2 d eighths of an EDGE apart: they hold where 4 d is below FRICTION.
    for (int f = 1; f <= 16; f++) {
      x.friction(f);
      due.is("friction " + f, x.slip(), (f - 1) / 4);
    }
    slipOfAll();
    slipByTrying();
  }

  /** SLIP is asked of many hands; what is due is found by trying all places on the bench itself. */
  private static void slipByTrying() {
    due.run("slip by trying");
    int number = 1;
    for (int hand = 0; hand < 1200; hand++) {
      GripBench x = hand % 2 == 0 ? new GripBench() : Told.part(0, 0, 30, 0, 30, 4, 0, 4);
      int size = 2 + hand % 3;
      int[] stands = new int[2 * size];
      for (int i = 0; i < 2 * size; i++) {
        number = number * 1103515245 + 12345;
        stands[i] = (number >>> 16) % (i % 2 == 0 ? x.count(0) : 9);
      }
      Told.fingers(x, stands);
      x.friction(hand % 17);
      int got = x.slip();
      int most = -1;
      for (int d = 0; d <= 8; d++) if (holdsAround(x, stands, 0, d)) most = d;
      due.is(java.util.Arrays.toString(stands) + " and friction " + hand % 17, got, most);
    }
  }

  private static boolean holdsAround(GripBench x, int[] stands, int finger, int d) {
    if (2 * finger == stands.length) return x.holds() == 1;
    int edge = stands[2 * finger];
    int k = stands[2 * finger + 1];
    for (int step = -1; step <= 1; step++) {
      x.move(finger, edge, Math.max(0, Math.min(8, k + step * d)));
      if (!holdsAround(x, stands, finger + 1, d)) return false;
    }
    return true;
  }

  /** FRICTION, what is due, then EDGE and k of each FINGER, on a bar of 30 by 4. */
  private static void slipOfAll() {
    int[][] told = {
      {2, 3, 1, 7, 3, 4, 1, 6}, {2, 5, 1, 2, 3, 7}, {2, 5, 1, 3, 1, 2, 3, 7}, {2, 6, 3, 0, 1, 7},
      {2, 6, 3, 7, 1, 1, 2, 0}, {2, 7, 3, 1, 3, 0, 1, 8}, {2, 7, 1, 0, 0, 5, 1, 6, 3, 8}, {4, 8, 3, 8, 1, 0},
      {7, 8, 3, 1, 3, 7, 1, 1}, {5, 8, 1, 8, 3, 3, 1, 3, 2, 1}
    };
    for (int[] t : told) {
      GripBench x = Told.part(0, 0, 30, 0, 30, 4, 0, 4);
      x.friction(t[0]);
      for (int i = 2; i < t.length; i += 2) x.finger(t[i], t[i + 1]);
      due.is("slip of " + java.util.Arrays.toString(t), x.slip(), t[1]);
    }
  }
}
