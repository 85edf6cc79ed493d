/** The sentences about THE BIN that name a bound: promises 26 to 30. */
public final class BinBoundsTest {
  private static final Due due = new Due();
  private static final int LEAST = Integer.MIN_VALUE;
  private static final int MOST = Integer.MAX_VALUE;

  public static void main(String[] args) {
    twelveAtMost();
    partsThatThereAre();
    notOnItself();
    alsoOfTaken();
    toldTwice();
    noneLiesOnIt();
    notInTheBin();
    itselfToo();
    notAtAll();
    neverTaken();
    emptyBin();
    due.end();
  }

  private static GripBench bin(int n) {
    GripBench x = new GripBench();
    for (int i = 0; i < n; i++) x.drop();
    return x;
  }

  /** "PARTS 0 .. 11, 12 at most": those that were TAKEN are of them. */
  private static void twelveAtMost() {
    due.run("26: 12 at most");
    GripBench x = new GripBench();
    for (int i = 0; i < 12; i++) {
      due.is("count(8) ahead", x.count(8), i);
      due.is("pick ahead", x.pick(i), -2);
      due.is("drop()", x.drop(), i);
    }
    due.is("count(7)", x.count(7), 12);
    due.is("the next", x.drop(), -4);
    for (int a = 0; a < 12; a++) {
      due.is("pick(" + a + ")", x.pick(a), 1);
      due.is("count(7)", x.count(7), 11 - a);
      due.is("count(8)", x.count(8), 12);
      due.is("the next", x.drop(), -4);
    }
    x = new GripBench();
    for (int i = 0; i < 12; i++) {
      due.is("drop()", x.drop(), i);
      due.is("taken at once", x.pick(i), 1);
      due.is("an empty bin", x.count(7), 0);
    }
    due.is("the next", x.drop(), -4);
    due.is("count(8)", x.count(8), 12);
  }

  /** BAD: "no such thing": the first PART and the last of 0 to 12, and those beyond. */
  private static void partsThatThereAre() {
    due.run("27 to 29: PARTS that there are");
    for (int size = 0; size <= 12; size++) {
      GripBench x = bin(size);
      int[] none = {-1, size, size + 1, 12, 13, 32, LEAST, MOST};
      for (int a : none) {
        due.is("on(" + a + ", 0)", x.on(a, 0), -2);
        due.is("on(0, " + a + ")", x.on(0, a), -2);
        due.is("pick(" + a + ")", x.pick(a), -2);
        due.is("reach(" + a + ")", x.reach(a), -2);
      }
      if (size < 2) continue;
      due.is("on of the ends", x.on(0, size - 1), 1);
      due.is("reach of the last", x.reach(size - 1), 2);
      due.is("pick of the last", x.pick(size - 1), -3);
      due.is("pick of the first", x.pick(0), 1);
      due.is("pick of the last", x.pick(size - 1), 1);
      // Refused ones are not kept for PARTS that come later.
      while (x.drop() >= 0) due.is("reach of a new one", x.reach(x.count(8) - 1), 1);
      due.is("stuck()", x.stuck(), 0);
    }
  }

  /** "BAD: itself": of each, whether it is in THE BIN or TAKEN. */
  private static void notOnItself() {
    due.run("27: not itself");
    GripBench x = bin(12);
    for (int a = 0; a < 12; a++) {
      due.is("on(" + a + ", " + a + ")", x.on(a, a), -2);
      due.is("pick(" + a + ")", x.pick(a), 1);
      due.is("on when it was TAKEN", x.on(a, a), -2);
    }
  }

  /** "also of such as were TAKEN": of the upper one, the lower one, and both. */
  private static void alsoOfTaken() {
    due.run("27: also of such as were TAKEN");
    GripBench x = bin(4);
    x.pick(2);
    x.pick(3);
    due.is("the upper one", x.on(2, 0), 1);
    due.is("the lower one", x.on(0, 2), 1);
    due.is("both", x.on(2, 3), 1);
    due.is("both the other way", x.on(3, 2), 1);
    due.is("reach(0)", x.reach(0), 1);
    due.is("stuck()", x.stuck(), 0);
    due.is("reach(2)", x.reach(2), -3);
    due.is("pick(2)", x.pick(2), -3);
    due.is("count(7)", x.count(7), 2);
    due.is("on(1, 0)", x.on(1, 0), 1);
    due.is("reach(0)", x.reach(0), 2);
    due.is("pick(0)", x.pick(0), -3);
    due.is("pick(1)", x.pick(1), 1);
    due.is("pick(0)", x.pick(0), 1);
  }

  private static void toldTwice() {
    due.run("27: told twice");
    GripBench x = bin(2);
    for (int i = 0; i < 3; i++) due.is("on(1, 0)", x.on(1, 0), 1);
    due.is("reach(0)", x.reach(0), 2);
    due.is("pick(1)", x.pick(1), 1);
    due.is("pick(0)", x.pick(0), 1);
  }

  /** "A PART can be TAKEN, if none that is in THE BIN lies ON it": eleven lie on one, and are TAKEN one by one. */
  private static void noneLiesOnIt() {
    due.run("28: none lies on it");
    for (int under = 0; under < 12; under += 11) {
      GripBench x = bin(12);
      for (int a = 0; a < 12; a++) if (a != under) x.on(a, under);
      for (int a = 0; a < 12; a++) {
        if (a == under) continue;
        due.is("NOT under some", x.pick(under), -3);
        due.is("reach", x.reach(under), x.count(7));
        due.is("pick(" + a + ")", x.pick(a), 1);
      }
      due.is("reach", x.reach(under), 1);
      due.is("under none", x.pick(under), 1);
    }
    GripBench x = bin(12);
    for (int b = 1; b < 12; b++) x.on(0, b);
    for (int b = 1; b < 12; b++) due.is("one on eleven", x.pick(b), -3);
    due.is("pick(0)", x.pick(0), 1);
    for (int b = 1; b < 12; b++) due.is("under none", x.pick(b), 1);
  }

  private static void notInTheBin() {
    due.run("28, 29: not in THE BIN");
    GripBench x = bin(12);
    for (int a = 0; a < 12; a += 11) {
      due.is("pick(" + a + ")", x.pick(a), 1);
      due.is("again", x.pick(a), -3);
      due.is("reach(" + a + ")", x.reach(a), -3);
      due.is("count(7)", x.count(7), a == 0 ? 11 : 10);
    }
    // NOT, and no NONE: those two lay on each other, but are not in THE BIN.
    x = bin(3);
    x.pick(0);
    x.pick(1);
    x.on(0, 1);
    x.on(1, 0);
    due.is("reach(0)", x.reach(0), -3);
    due.is("reach(1)", x.reach(1), -3);
    due.is("stuck()", x.stuck(), 0);
  }

  /** Promise 29: "itself, too": from 1 to 12; each once, though it lies on several. */
  private static void itselfToo() {
    due.run("29: itself, too");
    for (int size = 1; size <= 12; size++) {
      GripBench x = bin(size);
      for (int a = 0; a < size; a++) due.is("alone", x.reach(a), 1);
      for (int a = 0; a < size; a++) for (int b = a + 1; b < size; b++) x.on(b, a);
      for (int a = 0; a < size; a++) due.is("all on all below", x.reach(a), size - a);
      due.is("stuck()", x.stuck(), 0);
      x.pick(size - 1);
      for (int a = 0; a + 1 < size; a++) due.is("with one TAKEN", x.reach(a), size - a - 1);
    }
  }

  /** "NONE, if it cannot be reached at all": in a ring, and under one; not above one, nor beside it. */
  private static void notAtAll() {
    due.run("29: not at all");
    for (int size = 2; size <= 12; size++) {
      GripBench x = bin(size);
      for (int a = 0; a < size; a++) x.on(a, (a + 1) % size);
      for (int a = 0; a < size; a++) due.is("a ring of " + size, x.reach(a), -1);
      for (int a = 0; a < size; a++) due.is("pick", x.pick(a), -3);
    }
    GripBench x = bin(5);
    x.on(0, 1);
    x.on(1, 0);
    x.on(2, 0);
    x.on(1, 3);
    int[] want = {-1, -1, 1, -1, 1};
    for (int a = 0; a < 5; a++) due.is("reach(" + a + ")", x.reach(a), want[a]);
    // A ring that is broken by a TAKEN one is none.
    x = bin(3);
    x.on(0, 1);
    x.on(1, 2);
    due.is("pick(0)", x.pick(0), 1);
    x.on(2, 0);
    due.is("reach(2)", x.reach(2), 2);
    due.is("reach(1)", x.reach(1), 1);
  }

  /** Promise 30: "as bits": PART 0 is bit 1, PART 11 is bit 2048; all of them, some, none. */
  private static void neverTaken() {
    due.run("30: as bits");
    for (int a = 0; a < 12; a++) {
      for (int b = a + 1; b < 12; b++) {
        GripBench x = bin(12);
        x.on(a, b);
        x.on(b, a);
        due.is("two on each other", x.stuck(), (1 << a) + (1 << b));
      }
    }
    GripBench x = bin(12);
    for (int a = 0; a < 12; a++) x.on(a, (a + 5) % 12);
    due.is("all", x.stuck(), 4095);
    x = bin(12);
    x.on(11, 10);
    x.on(10, 11);
    for (int a = 1; a <= 10; a++) x.on(a, a - 1);
    due.is("all under a ring of two", x.stuck(), 4095);
    x = bin(12);
    x.on(0, 1);
    x.on(1, 0);
    for (int a = 2; a < 12; a++) x.on(a, a - 1);
    due.is("a tower on a ring", x.stuck(), 3);
    for (int a = 11; a >= 2; a--) due.is("pick(" + a + ")", x.pick(a), 1);
    due.is("the ring stays", x.stuck(), 3);
    due.is("count(7)", x.count(7), 2);
  }

  private static void emptyBin() {
    due.run("26 to 30: an empty BIN");
    GripBench x = new GripBench();
    due.is("stuck()", x.stuck(), 0);
    due.is("pick(0)", x.pick(0), -2);
    due.is("reach(0)", x.reach(0), -2);
    due.is("on(0, 1)", x.on(0, 1), -2);
    due.is("count(7)", x.count(7), 0);
    due.is("count(8)", x.count(8), 0);
  }
}
