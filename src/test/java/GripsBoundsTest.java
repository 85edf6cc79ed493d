/** The sentences about GRIPS that name a bound: promises 23 to 25. */
public final class GripsBoundsTest {
  private static final Due due = new Due();
  private static final int LEAST = Integer.MIN_VALUE;
  private static final int MOST = Integer.MAX_VALUE;

  public static void main(String[] args) {
    tenAtMost();
    gripsThatThereAre();
    notToItself();
    costEnds();
    bothWays();
    inPlaceOfTheFormer();
    toItself();
    none();
    dearestWay();
    cheapestOfMany();
    due.end();
  }

  private static GripBench grips(int n) {
    GripBench x = new GripBench();
    for (int i = 0; i < n; i++) x.grip();
    return x;
  }

  /** "GRIPS 0 .. 9, 10 at most". */
  private static void tenAtMost() {
    due.run("23: 10 at most");
    GripBench x = new GripBench();
    for (int i = 0; i < 10; i++) {
      due.is("count(5) ahead", x.count(5), i);
      due.is("way to it ahead", x.way(i, i), -2);
      due.is("grip()", x.grip(), i);
      due.is("way to it", x.way(i, i), 0);
    }
    for (int i = 0; i < 3; i++) due.is("the next", x.grip(), -4);
    due.is("count(5)", x.count(5), 10);
    due.is("link(9, 0, 1)", x.link(9, 0, 1), 1);
    due.is("link(10, 0, 1)", x.link(10, 0, 1), -2);
  }

  /** BAD: "no such thing": the first GRIP and the last of 0 to 10, and those beyond. */
  private static void gripsThatThereAre() {
    due.run("24, 25: GRIPS that there are");
    for (int size = 0; size <= 10; size++) {
      GripBench x = grips(size);
      int[] none = {-1, size, size + 1, 10, LEAST, MOST};
      for (int a : none) {
        due.is("way(" + a + ", 0)", x.way(a, 0), -2);
        due.is("way(0, " + a + ")", x.way(0, a), -2);
        due.is("way of both", x.way(a, a), -2);
        due.is("link(" + a + ", 0)", x.link(a, 0, 1), -2);
        due.is("link(0, " + a + ")", x.link(0, a, 1), -2);
      }
      if (size < 2) continue;
      due.is("link of the ends", x.link(0, size - 1, 3), 1);
      due.is("way of the ends", x.way(size - 1, 0), 3);
      // Refused ones are not kept for GRIPS that come later.
      while (x.grip() >= 0) due.is("way to a new one", x.way(0, x.count(5) - 1), -1);
    }
  }

  /** "BAD: also from a GRIP to itself": of each, also where it has the same COST as before. */
  private static void notToItself() {
    due.run("24: not to itself");
    GripBench x = grips(10);
    for (int a = 0; a < 10; a++) {
      due.is("link(" + a + ", " + a + ", 1)", x.link(a, a, 1), -2);
      due.is("way(" + a + ", " + a + ")", x.way(a, a), 0);
    }
    due.is("digest()", x.digest(), grips(10).digest());
  }

  /** "a COST (1 to 1000)". */
  private static void costEnds() {
    due.run("24: 1 to 1000");
    int[] bad = {0, 1001, -1, LEAST, MOST};
    for (int cost : bad) {
      GripBench x = grips(2);
      due.is("link of " + cost, x.link(0, 1, cost), -2);
      due.is("no way", x.way(0, 1), -1);
      x.link(0, 1, 7);
      due.is("link of " + cost, x.link(1, 0, cost), -2);
      due.is("the former stays", x.way(0, 1), 7);
    }
    int[] taken = {1, 1000, 2, 999};
    for (int cost : taken) {
      GripBench x = grips(2);
      due.is("link of " + cost, x.link(0, 1, cost), 1);
      due.is("way(0, 1)", x.way(0, 1), cost);
    }
  }

  /** "MOVES between two (told both ways ..". */
  private static void bothWays() {
    due.run("24: both ways");
    for (int a = 0; a < 10; a++) {
      for (int b = 0; b < 10; b++) {
        if (a == b) continue;
        GripBench x = grips(10);
        x.link(a, b, 17);
        due.is("way(" + a + ", " + b + ")", x.way(a, b), 17);
        due.is("way(" + b + ", " + a + ")", x.way(b, a), 17);
        for (int c = 0; c < 10; c++) if (c != a && c != b) due.is("no other", x.way(a, c), -1);
      }
    }
  }

  /** ".. a later one in place of the former)": a dearer one, a cheaper one, told from either end. */
  private static void inPlaceOfTheFormer() {
    due.run("24: in place of the former");
    int[] costs = {5, 1000, 1, 1, 7, 999};
    GripBench x = grips(3);
    for (int i = 0; i < costs.length; i++) {
      due.is("link", i % 2 == 0 ? x.link(0, 2, costs[i]) : x.link(2, 0, costs[i]), 1);
      due.is("way(0, 2)", x.way(0, 2), costs[i]);
      due.is("way(2, 0)", x.way(2, 0), costs[i]);
    }
    x.link(0, 1, 400);
    x.link(1, 2, 598);
    due.is("round about, cheaper by 1", x.way(0, 2), 998);
    x.link(1, 2, 599);
    due.is("round about, as dear", x.way(0, 2), 999);
    x.link(2, 1, 600);
    due.is("round about, dearer by 1", x.way(0, 2), 999);
  }

  /** "(0 to itself)": without a MOVE and with some. */
  private static void toItself() {
    due.run("25: 0 to itself");
    for (int size = 1; size <= 10; size++) {
      GripBench x = grips(size);
      for (int a = 0; a < size; a++) due.is("way to itself", x.way(a, a), 0);
      for (int a = 0; a + 1 < size; a++) x.link(a, a + 1, 1);
      for (int a = 0; a < size; a++) due.is("way to itself with MOVES", x.way(a, a), 0);
    }
  }

  private static void none() {
    due.run("25: NONE");
    for (int size = 2; size <= 10; size++) {
      GripBench x = grips(size);
      for (int a = 0; a < size; a++) for (int b = 0; b < size; b++) if (a != b) due.is("way", x.way(a, b), -1);
      // All but the last in a row: that one is not come to.
      for (int a = 0; a + 2 < size; a++) x.link(a, a + 1, 1000);
      for (int a = 0; a + 1 < size; a++) {
        due.is("way to the last", x.way(a, size - 1), -1);
        due.is("way from the last", x.way(size - 1, a), -1);
        due.is("way from the first", x.way(0, a), 1000 * a);
      }
    }
  }

  /** Nine MOVES of 1000 are the dearest way that there can be. */
  private static void dearestWay() {
    due.run("25: the dearest");
    GripBench x = grips(10);
    int[] row = {5, 2, 9, 0, 7, 1, 8, 3, 6, 4};
    for (int i = 0; i < 9; i++) x.link(row[i], row[i + 1], 1000);
    due.is("way", x.way(5, 4), 9000);
    due.is("way back", x.way(4, 5), 9000);
    x.link(5, 4, 1000);
    due.is("at once", x.way(5, 4), 1000);
    due.is("half round", x.way(5, 1), 5000);
    due.is("half round the other way", x.way(5, 8), 4000);
  }

  /** Nine MOVES of 1 in place of one of 10, of 9 and of 8. */
  private static void cheapestOfMany() {
    due.run("25: the least COST");
    for (int cost = 8; cost <= 10; cost++) {
      GripBench x = grips(10);
      for (int i = 0; i < 9; i++) x.link(9 - i, 8 - i, 1);
      x.link(0, 9, cost);
      due.is("way(0, 9) with " + cost, x.way(0, 9), Math.min(9, cost));
      due.is("way(9, 0) with " + cost, x.way(9, 0), Math.min(9, cost));
    }
    GripBench x = grips(10);
    for (int a = 0; a < 10; a++) for (int b = a + 1; b < 10; b++) x.link(a, b, (b - a) * (b - a));
    for (int a = 0; a < 10; a++) for (int b = 0; b < 10; b++) due.is("all linked", x.way(a, b), Math.abs(a - b));
  }
}
