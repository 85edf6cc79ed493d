import java.util.ArrayList;
import java.util.List;
import java.util.function.Supplier;

/**
 * Benches told the same, of which one gets a refused call more: what that answers, and that it changes nothing but
 * count() 6. All that the face tells is looked at, also as it is when every row has been filled up behind the call.
 */
final class Twins {
  private static final int VIEWS = 8;

  private final Due due;
  private final Supplier<GripBench> told;
  private final List<List<Long>> untouched = new ArrayList<>();
  private final int finding;

  Twins(Due due, Supplier<GripBench> told) {
    this.due = due;
    this.told = told;
    for (int view = 0; view < VIEWS; view++) untouched.add(view(told.get(), view));
    finding = told.get().count(6);
  }

  /** A refusal that is no FINDING: count() 6 stays as well. */
  void refused(Call call, long want) {
    refused(call, want, finding);
  }

  /** A refusal behind which count() 6 is the number of this FINDING. */
  void refused(Call call, long want, int found) {
    for (int view = 0; view < VIEWS; view++) {
      GripBench x = told.get();
      due.is(call.toString(), call.ask(x), want);
      due.is("count(6) behind " + call, x.count(6), found);
      due.yes("view " + view + " stays behind " + call, view(x, view).equals(untouched.get(view)));
    }
  }

  /** One view of a bench, of some 250 calls at most. */
  private static List<Long> view(GripBench x, int view) {
    List<Long> seen = new ArrayList<>();
    switch (view) {
      case 0: part(x, seen); break;
      case 1: fingers(x, seen); break;
      case 2: poses(x, seen); break;
      case 3: grips(x, seen); break;
      case 4: bin(x, seen); break;
      default: sheets(x, seen, view - 5);
    }
    return seen;
  }

  private static void counts(GripBench x, List<Long> seen) {
    for (int what = 0; what <= 8; what++) if (what != 6) seen.add((long) x.count(what));
  }

  private static void part(GripBench x, List<Long> seen) {
    counts(x, seen);
    for (int i = 0; i < 10; i++) for (int what = 0; what < 2; what++) seen.add((long) x.corner(i, what));
    for (int what = 0; what < 3; what++) seen.add((long) x.middle(what));
    for (int i = 0; i < 40; i++) seen.add((long) x.isIn(13 * i - 240, 7 * i - 140));
    seen.add(x.digest());
  }

  /** FINGERS and SPOTS, then all that can be told of them more, then THE CHEAPEST in place of them. */
  private static void fingers(GripBench x, List<Long> seen) {
    pushes(x, seen);
    for (int part = 0; part < 3; part++) seen.add(x.witness(part));
    for (int i = 0; i < 8; i++) seen.add((long) x.free(i));
    seen.add((long) x.slip());
    seen.add((long) x.cheapest());
    for (int i = 0; i < 9; i++) seen.add((long) x.finger(i % 3, i));
    for (int i = 0; i < 8; i++) seen.add((long) x.spot(i % 3, i, 3));
    seen.add((long) x.take());
    pushes(x, seen);
    seen.add((long) x.friction(0));
    seen.add((long) x.release());
  }

  private static void pushes(GripBench x, List<Long> seen) {
    for (int t = 0; t < 17; t++) for (int part = 0; part < 3; part++) seen.add(x.push(t, part));
    seen.add((long) x.holds());
  }

  private static void poses(GripBench x, List<Long> seen) {
    seen.add((long) x.poses());
    for (int i = 0; i < 82; i++) seen.add((long) x.pose(i));
    for (int i = 0; i < 21; i++) seen.add((long) x.probe(i % 5, i % 3));
    seen.add((long) x.sheet(0, 0, 20));
    for (int i = 0; i < 20; i++) {
      seen.add((long) x.put(0, 0, i, 1));
      seen.add((long) x.poses());
    }
  }

  private static void grips(GripBench x, List<Long> seen) {
    for (int times = 0; times < 2; times++) {
      for (int a = 0; a < 10; a++) for (int b = 0; b < 10; b++) seen.add((long) x.way(a, b));
      for (int i = 0; i < 11; i++) seen.add((long) x.grip());
    }
  }

  private static void bin(GripBench x, List<Long> seen) {
    for (int times = 0; times < 2; times++) {
      for (int a = 0; a < 12; a++) seen.add((long) x.reach(a));
      seen.add((long) x.stuck());
      for (int i = 0; i < 13; i++) seen.add((long) x.drop());
    }
    for (int round = 0; round < 12; round++) for (int a = 0; a < 12; a++) seen.add((long) x.pick(a));
    counts(x, seen);
  }

  /** The first items of a SHEET, its last, and how many it has; of two SHEETS in the last view. */
  private static void sheets(GripBench x, List<Long> seen, int first) {
    for (int s = first; s < (first == 2 ? 4 : first + 1); s++) {
      for (int form = 0; form < 3; form++) {
        for (int i = 0; i < 22; i++) seen.add((long) x.get(s, form, i));
        for (int i = 57; i < 61; i++) seen.add((long) x.get(s, form, i));
      }
      for (int times = 0; times < 2; times++) seen.add((long) x.lose(s));
    }
    counts(x, seen);
  }
}
