/** A bench and a model of it, told and asked the same. */
final class Pair {
  static final int CALLS = 37 - 1;

  final GripBench bench = new GripBench();
  final Model model = new Model();
  private final Due due;

  Pair(Due due) {
    this.due = due;
  }

  /** Makes call number which (the order of the public face, from 0), the first few of a as what it takes. */
  void call(int which, int... a) {
    long got = bench(which, a);
    long want = model(which, a);
    if (got != want) due.is("call " + which + " of " + java.util.Arrays.toString(a), got, want);
    else due.is("", 0, 0);
  }

  /** All that the face tells of the state, findings too. */
  void compare() {
    for (int what = 0; what < 9; what++) call(34, what);
    for (int what = 0; what < 3; what++) {
      call(2, what);
      call(10, what);
    }
    call(12);
    call(14);
    call(35);
  }

  private long bench(int which, int[] a) {
    switch (which) {
      case 0: return bench.shape(a[0], a[1]);
      case 1: return bench.corner(a[0], a[1]);
      case 2: return bench.middle(a[0]);
      case 3: return bench.isIn(a[0], a[1]);
      case 4: return bench.finger(a[0], a[1]);
      case 5: return bench.move(a[0], a[1], a[2]);
      case 6: return bench.release();
      case 7: return bench.friction(a[0]);
      case 8: return bench.push(a[0], a[1]);
      case 9: return bench.holds();
      case 10: return bench.witness(a[0]);
      case 11: return bench.free(a[0]);
      case 12: return bench.slip();
      case 13: return bench.spot(a[0], a[1], a[2]);
      case 14: return bench.cheapest();
      case 15: return bench.take();
      case 16: return bench.lifts(a[0], a[1], a[2], a[3]);
      case 17: return bench.seal(a[0], a[1], a[2]);
      case 18: return bench.probe(a[0], a[1]);
      case 19: return bench.poses();
      case 20: return bench.pose(a[0]);
      case 21: return bench.grip();
      case 22: return bench.link(a[0], a[1], a[2]);
      case 23: return bench.way(a[0], a[1]);
      case 24: return bench.drop();
      case 25: return bench.on(a[0], a[1]);
      case 26: return bench.pick(a[0]);
      case 27: return bench.reach(a[0]);
      case 28: return bench.stuck();
      case 29: return bench.sheet(a[0], a[1], a[2]);
      case 30: return bench.lose(a[0]);
      case 31: return bench.put(a[0], a[1], a[2], a[3]);
      case 32: return bench.get(a[0], a[1], a[2]);
      case 33: return bench.copy(a[0], a[1], a[2], a[3], a[4]);
      case 34: return bench.count(a[0]);
      default: return bench.digest();
    }
  }

  private long model(int which, int[] a) {
    switch (which) {
      case 0: return model.shape(a[0], a[1]);
      case 1: return model.corner(a[0], a[1]);
      case 2: return model.middle(a[0]);
      case 3: return model.isIn(a[0], a[1]);
      case 4: return model.finger(a[0], a[1]);
      case 5: return model.move(a[0], a[1], a[2]);
      case 6: return model.release();
      case 7: return model.friction(a[0]);
      case 8: return model.push(a[0], a[1]);
      case 9: return model.holds();
      case 10: return model.witness(a[0]);
      case 11: return model.free(a[0]);
      case 12: return model.slip();
      case 13: return model.spot(a[0], a[1], a[2]);
      case 14: return model.cheapest();
      case 15: return model.take();
      case 16: return model.lifts(a[0], a[1], a[2], a[3]);
      case 17: return model.seal(a[0], a[1], a[2]);
      case 18: return model.probe(a[0], a[1]);
      case 19: return model.poses();
      case 20: return model.pose(a[0]);
      case 21: return model.grip();
      case 22: return model.link(a[0], a[1], a[2]);
      case 23: return model.way(a[0], a[1]);
      case 24: return model.drop();
      case 25: return model.on(a[0], a[1]);
      case 26: return model.pick(a[0]);
      case 27: return model.reach(a[0]);
      case 28: return model.stuck();
      case 29: return model.sheet(a[0], a[1], a[2]);
      case 30: return model.lose(a[0]);
      case 31: return model.put(a[0], a[1], a[2], a[3]);
      case 32: return model.get(a[0], a[1], a[2]);
      case 33: return model.copy(a[0], a[1], a[2], a[3], a[4]);
      case 34: return model.count(a[0]);
      default: return model.digest();
    }
  }
}
