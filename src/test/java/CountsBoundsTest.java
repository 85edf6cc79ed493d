/** The sentences about count and digest that name a bound, and the last call that an object is used for. */
public final class CountsBoundsTest {
  private static final Due due = new Due();

  public static void main(String[] args) {
    countOfEach();
    countBeyond();
    digestOfFull();
    digestOfEmptied();
    digestTellsEach();
    lastCalls();
    due.end();
  }

  /** Promise 36: each from none to as many as there can be. */
  private static void countOfEach() {
    due.run("36: count");
    int[] none = {3, 0, 0, 0, 0, 0, 0, 0, 0};
    int[] all = {10, 8, 16, 7, 20, 10, 0, 11, 12};
    GripBench x = new GripBench();
    GripBench y = States.full();
    for (int what = 0; what <= 8; what++) {
      due.is("count(" + what + ") of none", x.count(what), none[what]);
      due.is("count(" + what + ") of all", y.count(what), all[what]);
    }
    due.is("count changes nothing", x.digest(), new GripBench().digest());
  }

  private static void countBeyond() {
    due.run("36: BAD");
    int[] beyond = {-1, 9, 10, Integer.MIN_VALUE, Integer.MAX_VALUE};
    GripBench x = new GripBench();
    for (int what : beyond) due.is("count(" + what + ")", x.count(what), -2);
    due.is("count(6)", x.count(6), 0);
  }

  /** h told once more from what the face tells; so many that it wraps many times. */
  private static long digestOf(GripBench x) {
    long h = 17;
    int[] counts = {0, 1, 2, 3, 4, 5, 7, 8};
    for (int what : counts) h = 31 * h + x.count(what);
    for (int i = 0; i < x.count(0); i++) h = 31 * (31 * h + x.corner(i, 0)) + x.corner(i, 1);
    int triples = x.count(1) * (x.count(2) == 0 ? 1 : 2);
    for (int t = 0; t < triples; t++) for (int part = 0; part < 3; part++) h = 31 * h + x.push(t, part);
    h = 31 * h + x.holds();
    h = 31 * h + x.poses();
    return 31 * h + x.stuck();
  }

  private static void digestOfFull() {
    due.run("37: digest of all");
    GripBench x = States.full();
    due.is("with FRICTION", x.digest(), digestOf(x));
    x.friction(0);
    due.is("without", x.digest(), digestOf(x));
    x.on(0, 1);
    due.is("with a ring", x.digest(), digestOf(x));
    x.put(0, 0, 0, 0);
    due.is("with a touch", x.digest(), digestOf(x));
    due.is("some", States.some().digest(), digestOf(States.some()));
    due.is("none", new GripBench().digest(), digestOf(new GripBench()));
  }

  /** All TAKEN and no FINGERS: but what was dropped is told still. */
  private static void digestOfEmptied() {
    due.run("37: digest of an emptied one");
    GripBench x = Told.fingers(new GripBench(), 0, 1);
    long h = new GripBench().digest();
    x.release();
    due.is("as at first", x.digest(), h);
    x.friction(3);
    x.friction(0);
    due.is("as at first", x.digest(), h);
    x.drop();
    x.pick(0);
    due.yes("not as at first", x.digest() != h);
    due.is("as told", x.digest(), digestOf(x));
    Told.row(x, 1, 0, 1, 2, 3);
    due.is("no SHEET is in it", x.digest(), digestOf(x));
  }

  private static void digestTellsEach() {
    due.run("37: each of them");
    long was = States.some().digest();
    Call[] calls = {
      Call.of("finger", 3, 6), Call.of("move", 0, 0, 3), Call.of("friction", 16), Call.of("spot", 0, 0, 0),
      Call.of("probe", 0, 0), Call.of("grip"), Call.of("drop"), Call.of("pick", 2), Call.of("on", 0, 1),
      Call.of("put", 0, 2, 0, 0), Call.of("release"), Call.of("take"), Call.of("shape", 1, 3), Call.of("lose", 0)
    };
    for (Call call : calls) {
      GripBench x = States.some();
      due.yes(call + " is taken", call.ask(x) >= 0);
      due.yes(call + " is told", x.digest() != was);
      due.is("digest() behind " + call, x.digest(), digestOf(x));
    }
    GripBench x = States.some();
    due.yes("a SPOT's PRICE and a COST are not", x.link(0, 1, 9) == 1 && x.digest() == was);
  }

  /** "for at most 512 calls": the last of them is as the first, of the dearest calls too. */
  private static void lastCalls() {
    due.run("512 calls");
    GripBench x = new GripBench();
    long h = x.digest();
    for (int call = 1; call < 512; call++) due.is("digest()", x.digest(), h);
    x = new GripBench();
    for (int call = 0; call < 512; call++) due.is("sheet", x.sheet(call % 4, call % 3, call % 61), call % 61);
    x = Told.fingers(Told.part(0, 0, 30, 0, 30, 1, 0, 1), 1, 4, 3, 4, 1, 0, 3, 8);
    x.friction(1);
    for (int call = 20; call < 512; call++) due.is("slip()", x.slip(), 8);
    x = Told.square();
    x.friction(1);
    for (int i = 0; i < 7; i++) x.spot(i == 6 ? 2 : 0, i, 1000);
    for (int call = 20; call < 512; call++) due.is("cheapest()", x.cheapest(), 4 + 64);
  }
}
