import java.math.BigInteger;
import java.util.ArrayList;
import java.util.Comparator;
import java.util.List;

/**
 * The document once more, told slowly and by other ways than the program goes: what holds is found by leaving
 * unknowns out of inequalities, what is in by fractions, ways by all pairs, the bin by trying, a pose by
 * moving the part.
 */
final class Model {
  private static final long LEAST = Long.MIN_VALUE;

  private int[][] corners = {{0, 0}, {10, 0}, {0, 10}};
  private final List<int[]> fingers = new ArrayList<>();
  private final List<int[]> spots = new ArrayList<>();
  private final List<int[]> probes = new ArrayList<>();
  private final List<int[]> links = new ArrayList<>();
  private final List<int[]> lying = new ArrayList<>();
  private final List<Boolean> inBin = new ArrayList<>();
  private final int[][] rows = new int[4][];
  private final int[] forms = new int[4];
  private int grips = 0;
  private int friction = 0;
  private int finding = 0;

  private int found(int number) {
    finding = number;
    return -10 - number;
  }

  // ---- the part

  private static int[] sums(int[][] c) {
    int[] sums = new int[3];
    for (int i = 0; i < c.length; i++) {
      int[] a = c[i];
      int[] b = c[(i + 1) % c.length];
      int turn = a[0] * b[1] - a[1] * b[0];
      sums[0] += turn;
      sums[1] += (a[0] + b[0]) * turn;
      sums[2] += (a[1] + b[1]) * turn;
    }
    return sums;
  }

  int shape(int s, int n) {
    if (s < 0 || s > 3 || n < 3 || n > 10) return -2;
    if (rows[s] == null) return found(1);
    if (rows[s].length < 2L * n) return found(2);
    int[][] told = new int[n][2];
    for (int i = 0; i < 2 * n; i++) {
      if (Math.abs((long) rows[s][i]) > 30) return -3;
      told[i / 2][i % 2] = rows[s][i];
    }
    int area = sums(told)[0];
    if (area <= 0) return -3;
    corners = told;
    fingers.clear();
    spots.clear();
    return area;
  }

  int corner(int i, int what) {
    return i < 0 || i >= corners.length || what < 0 || what > 1 ? -1000 : corners[i][what];
  }

  int middle(int what) {
    return what < 0 || what > 2 ? -1000000 : sums(corners)[what];
  }

  int isIn(int x, int y) {
    return x < -1000 || x > 1000 || y < -1000 || y > 1000 ? -2 : side(corners, x, y);
  }

  private static int side(int[][] c, int x, int y) {
    int crossed = 0;
    for (int i = 0; i < c.length; i++) {
      long ax = 8 * c[i][0], ay = 8 * c[i][1];
      long bx = 8 * c[(i + 1) % c.length][0], by = 8 * c[(i + 1) % c.length][1];
      long dx = bx - ax, dy = by - ay;
      long along = (x - ax) * dx + (y - ay) * dy;
      boolean onLine = dx * (y - ay) == dy * (x - ax);
      boolean isOn = dx == 0 && dy == 0 ? x == ax && y == ay : onLine && along >= 0 && along <= dx * dx + dy * dy;
      if (isOn) return 2;
      if (Math.max(ay, by) > y && Math.min(ay, by) <= y) {
        // It meets the way at ax and (y - ay) dx by dy: told against x with dy above 0.
        long up = dy > 0 ? 1 : -1;
        if (up * (ax * dy + (y - ay) * dx) > up * x * dy) crossed++;
      }
    }
    return crossed % 2;
  }

  // ---- fingers

  private boolean isStand(int edge, int k) {
    return edge >= 0 && edge < corners.length && k >= 0 && k <= 8;
  }

  int finger(int edge, int k) {
    if (!isStand(edge, k)) return -2;
    if (fingers.size() == 8) return -4;
    fingers.add(new int[] {edge, k});
    return fingers.size() - 1;
  }

  int move(int finger, int edge, int k) {
    if (finger < 0 || finger >= fingers.size() || !isStand(edge, k)) return -2;
    fingers.set(finger, new int[] {edge, k});
    return 1;
  }

  int release() {
    int had = fingers.size();
    fingers.clear();
    return had;
  }

  int friction(int f) {
    if (f < 0 || f > 16) return -2;
    int had = friction;
    friction = f;
    return had;
  }

  private List<long[]> triples(List<int[]> stands) {
    List<long[]> triples = new ArrayList<>();
    for (int[] stand : stands) {
      int[] a = corners[stand[0]];
      int[] b = corners[(stand[0] + 1) % corners.length];
      long dx = b[0] - a[0], dy = b[1] - a[1];
      long x = 8 * a[0] + stand[1] * dx, y = 8 * a[1] + stand[1] * dy;
      for (int sign = 1; sign >= (friction == 0 ? 1 : -1); sign -= 2) {
        long p = 16 * -dy + sign * friction * dx;
        long q = 16 * dx + sign * friction * dy;
        triples.add(new long[] {p, q, x * q - y * p});
      }
    }
    return triples;
  }

  long push(int t, int part) {
    List<long[]> triples = triples(fingers);
    return t < 0 || t >= triples.size() || part < 0 || part > 2 ? LEAST + 2 : triples.get(t)[part];
  }

  /** No three numbers: one of them would be 1 or -1, were they made less or more together. */
  static boolean isHeld(List<long[]> triples) {
    for (int which = 0; which < 3; which++) {
      for (int number = -1; number <= 1; number += 2) {
        List<BigInteger[]> lines = new ArrayList<>();
        for (long[] t : triples) {
          lines.add(new BigInteger[] {
            BigInteger.valueOf(t[(which + 1) % 3]), BigInteger.valueOf(t[(which + 2) % 3]),
            BigInteger.valueOf(number * t[which])
          });
        }
        if (isSolvable(leaveOut(leaveOut(lines, 0), 1))) return false;
      }
    }
    return true;
  }

  /** Lines a x + b y + c, all to be 0 or above: what is asked of the rest, if such an x (or y) is to be. */
  private static List<BigInteger[]> leaveOut(List<BigInteger[]> lines, int which) {
    List<BigInteger[]> rest = new ArrayList<>();
    for (BigInteger[] up : lines) {
      if (up[which].signum() == 0) rest.add(up);
      for (BigInteger[] down : lines) {
        if (up[which].signum() > 0 && down[which].signum() < 0) {
          BigInteger[] sum = new BigInteger[3];
          for (int i = 0; i < 3; i++) {
            sum[i] = up[i].multiply(down[which].negate()).add(down[i].multiply(up[which]));
          }
          rest.add(sum);
        }
      }
    }
    return rest;
  }

  private static boolean isSolvable(List<BigInteger[]> lines) {
    for (BigInteger[] line : lines) if (line[2].signum() < 0) return false;
    return true;
  }

  int holds() {
    return isHeld(triples(fingers)) ? 1 : 0;
  }

  private static BigInteger[] cross(long[] u, long[] v) {
    BigInteger[] c = new BigInteger[3];
    for (int i = 0; i < 3; i++) {
      int j = (i + 1) % 3, k = (i + 2) % 3;
      c[i] = BigInteger.valueOf(u[j]).multiply(BigInteger.valueOf(v[k]))
          .subtract(BigInteger.valueOf(u[k]).multiply(BigInteger.valueOf(v[j])));
    }
    return c;
  }

  private static BigInteger product(BigInteger[] c, long[] w) {
    BigInteger sum = BigInteger.ZERO;
    for (int i = 0; i < 3; i++) sum = sum.add(c[i].multiply(BigInteger.valueOf(w[i])));
    return sum;
  }

  private static boolean areThreeApart(List<long[]> triples) {
    for (long[] u : triples) for (long[] v : triples) for (long[] w : triples) {
      if (product(cross(u, v), w).signum() != 0) return true;
    }
    return false;
  }

  long witness(int part) {
    if (part < 0 || part > 2) return LEAST + 2;
    List<long[]> triples = triples(fingers);
    if (isHeld(triples) || !areThreeApart(triples)) return LEAST + 3;
    for (int u = 0; u < triples.size(); u++) {
      for (int v = u + 1; v < triples.size(); v++) {
        BigInteger[] c = cross(triples.get(u), triples.get(v));
        int below = 0, above = 0, parts = 0;
        for (long[] w : triples) {
          if (product(c, w).signum() < 0) below++;
          if (product(c, w).signum() > 0) above++;
        }
        for (BigInteger number : c) parts += number.signum() == 0 ? 0 : 1;
        if (parts > 0 && below == 0) return c[part].longValueExact();
        if (parts > 0 && above == 0) return c[part].negate().longValueExact();
      }
    }
    throw new IllegalStateException("no witness");
  }

  int free(int finger) {
    if (finger < 0 || finger >= fingers.size()) return -2;
    int bits = 0;
    for (int k = 0; k <= 8; k++) {
      List<int[]> stands = new ArrayList<>(fingers);
      stands.set(finger, new int[] {fingers.get(finger)[0], k});
      if (isHeld(triples(stands))) bits += (int) Math.pow(2, k);
    }
    return bits;
  }

  int slip() {
    if (fingers.size() > 4) return -3;
    int most = -1;
    for (int d = 0; d <= 8; d++) {
      if (isHeldAround(new ArrayList<>(), d)) most = d;
    }
    return most;
  }

  private boolean isHeldAround(List<int[]> stands, int d) {
    if (stands.size() == fingers.size()) return isHeld(triples(stands));
    int[] stand = fingers.get(stands.size());
    for (int k : new int[] {Math.max(0, stand[1] - d), stand[1], Math.min(8, stand[1] + d)}) {
      List<int[]> more = new ArrayList<>(stands);
      more.add(new int[] {stand[0], k});
      if (!isHeldAround(more, d)) return false;
    }
    return true;
  }

  // ---- spots

  int spot(int edge, int k, int price) {
    if (!isStand(edge, k) || price < 0 || price > 1000) return -2;
    if (spots.size() == 7) return -4;
    spots.add(new int[] {edge, k, price});
    return spots.size();
  }

  private List<int[]> chosen(int set) {
    List<int[]> chosen = new ArrayList<>();
    for (int i = 0; i < spots.size(); i++) if ((set >> i) % 2 == 1) chosen.add(spots.get(i));
    return chosen;
  }

  private int price(int set) {
    int price = 0;
    for (int[] spot : chosen(set)) price += spot[2];
    return price;
  }

  int cheapest() {
    List<Integer> sets = new ArrayList<>();
    for (int set = 0; set < Math.pow(2, spots.size()); set++) sets.add(set);
    sets.sort(Comparator.<Integer>comparingInt(this::price).thenComparingInt(set -> chosen(set).size())
        .thenComparingInt(set -> set));
    for (int set : sets) if (isHeld(triples(chosen(set)))) return set;
    return -1;
  }

  int take() {
    int set = cheapest();
    if (set < 0) return -3;
    fingers.clear();
    for (int[] spot : chosen(set)) fingers.add(new int[] {spot[0], spot[1]});
    return price(set);
  }

  // ---- cups, poses

  /** The square of the weight times the way, as numerator and denominator. */
  private BigInteger[] pull(int x, int y, int w) {
    int[] sums = sums(corners);
    BigInteger by = BigInteger.valueOf(3L * sums[0]);
    BigInteger dx = by.multiply(BigInteger.valueOf(x)).subtract(BigInteger.valueOf(8L * sums[1]));
    BigInteger dy = by.multiply(BigInteger.valueOf(y)).subtract(BigInteger.valueOf(8L * sums[2]));
    return new BigInteger[] {dx.pow(2).add(dy.pow(2)).multiply(BigInteger.valueOf(w).pow(2)), by.pow(2)};
  }

  int lifts(int x, int y, int w, int s) {
    if (isIn(x, y) < 0 || w < 1 || w > 20 || s < 0 || s > 100000) return -2;
    if (isIn(x, y) == 0) return 0;
    BigInteger[] pull = pull(x, y, w);
    return pull[0].compareTo(BigInteger.valueOf(s).pow(2).multiply(pull[1])) <= 0 ? 1 : 0;
  }

  int seal(int x, int y, int w) {
    if (isIn(x, y) < 0 || w < 1 || w > 20) return -2;
    if (isIn(x, y) == 0) return -3;
    BigInteger[] pull = pull(x, y, w);
    BigInteger s = pull[0].divide(pull[1]).sqrt();
    return s.pow(2).multiply(pull[1]).compareTo(pull[0]) >= 0 ? s.intValueExact() : s.intValueExact() + 1;
  }

  int probe(int x, int y) {
    if (Math.abs((long) x) > 40 || Math.abs((long) y) > 40) return -2;
    if (probes.size() == 20) return -4;
    probes.add(new int[] {x, y});
    return probes.size();
  }

  private List<Integer> fitting() {
    List<Integer> fitting = new ArrayList<>();
    for (int dx = -4; dx <= 4; dx++) {
      for (int dy = -4; dy <= 4; dy++) {
        int[][] moved = new int[corners.length][];
        for (int i = 0; i < moved.length; i++) moved[i] = new int[] {corners[i][0] + dx, corners[i][1] + dy};
        boolean fits = true;
        for (int i = 0; i < probes.size(); i++) {
          int felt = rows[0] == null || i >= rows[0].length ? -1 : rows[0][i];
          boolean there = side(moved, 8 * probes.get(i)[0], 8 * probes.get(i)[1]) != 0;
          if (felt == 1 && !there || felt == 0 && there) fits = false;
        }
        if (fits) fitting.add(10 * (dx + 4) + (dy + 4));
      }
    }
    return fitting;
  }

  int poses() {
    return fitting().size();
  }

  int pose(int i) {
    List<Integer> fitting = fitting();
    return i < 0 || i >= fitting.size() ? -2 : fitting.get(i);
  }

  // ---- grips, the bin

  int grip() {
    return grips == 10 ? -4 : grips++;
  }

  int link(int a, int b, int cost) {
    if (a < 0 || a >= grips || b < 0 || b >= grips || a == b || cost < 1 || cost > 1000) return -2;
    links.removeIf(link -> link[0] == a && link[1] == b || link[0] == b && link[1] == a);
    links.add(new int[] {a, b, cost});
    return 1;
  }

  int way(int a, int b) {
    if (a < 0 || a >= grips || b < 0 || b >= grips) return -2;
    long[][] least = new long[grips][grips];
    for (int i = 0; i < grips; i++) for (int j = 0; j < grips; j++) least[i][j] = i == j ? 0 : 1L << 40;
    for (int[] link : links) least[link[0]][link[1]] = least[link[1]][link[0]] = link[2];
    for (int m = 0; m < grips; m++) {
      for (int i = 0; i < grips; i++) {
        for (int j = 0; j < grips; j++) least[i][j] = Math.min(least[i][j], least[i][m] + least[m][j]);
      }
    }
    return least[a][b] >= 1L << 40 ? -1 : (int) least[a][b];
  }

  int drop() {
    if (inBin.size() == 12) return -4;
    inBin.add(true);
    return inBin.size() - 1;
  }

  int on(int a, int b) {
    if (a < 0 || a >= inBin.size() || b < 0 || b >= inBin.size() || a == b) return -2;
    lying.add(new int[] {a, b});
    return 1;
  }

  private boolean isFree(int a, List<Boolean> inside) {
    for (int[] pair : lying) if (pair[1] == a && inside.get(pair[0])) return false;
    return true;
  }

  int pick(int a) {
    if (a < 0 || a >= inBin.size()) return -2;
    if (!inBin.get(a) || !isFree(a, inBin)) return -3;
    inBin.set(a, false);
    return 1;
  }

  int reach(int a) {
    if (a < 0 || a >= inBin.size()) return -2;
    if (!inBin.get(a)) return -3;
    if ((stuck() >> a) % 2 == 1) return -1;
    List<Integer> needed = new ArrayList<>(List.of(a));
    for (int i = 0; i < needed.size(); i++) {
      for (int[] pair : lying) {
        if (pair[1] == needed.get(i) && inBin.get(pair[0]) && !needed.contains(pair[0])) needed.add(pair[0]);
      }
    }
    return needed.size();
  }

  int stuck() {
    List<Boolean> inside = new ArrayList<>(inBin);
    boolean more = true;
    while (more) {
      more = false;
      for (int a = 0; a < inside.size(); a++) {
        if (inside.get(a) && isFree(a, inside)) {
          inside.set(a, false);
          more = true;
        }
      }
    }
    int bits = 0;
    for (int a = 0; a < inside.size(); a++) if (inside.get(a)) bits += (int) Math.pow(2, a);
    return bits;
  }

  // ---- sheets

  int sheet(int s, int form, int n) {
    if (s < 0 || s > 3 || form < 0 || form > 2 || n > 60) return -2;
    if (n < 0) return found(5);
    rows[s] = new int[n];
    forms[s] = form;
    return n;
  }

  int lose(int s) {
    if (s < 0 || s > 3) return -2;
    if (rows[s] == null) return found(1);
    int had = rows[s].length;
    rows[s] = null;
    return had;
  }

  private int fault(int s, int form, int i) {
    return rows[s] == null ? 1 : forms[s] != form ? 3 : i < 0 || i >= rows[s].length ? 2 : 0;
  }

  int put(int s, int form, int i, int v) {
    if (s < 0 || s > 3 || form < 0 || form > 2) return -2;
    if (fault(s, form, i) != 0) return found(fault(s, form, i));
    rows[s][i] = form == 0 ? v << 24 >> 24 : form == 1 ? v << 16 >> 16 : v;
    return 1;
  }

  int get(int s, int form, int i) {
    if (s < 0 || s > 3 || form < 0 || form > 2) return Integer.MIN_VALUE;
    if (fault(s, form, i) == 0) return rows[s][i];
    found(fault(s, form, i));
    return Integer.MIN_VALUE;
  }

  int copy(int s, int i, int t, int j, int n) {
    if (s < 0 || s > 3 || t < 0 || t > 3) return -2;
    if (rows[s] == null || rows[t] == null) return found(1);
    if (forms[s] != forms[t]) return found(4);
    if (i < 0 || j < 0 || n < 0 || (long) i + n > rows[s].length || (long) j + n > rows[t].length) return found(2);
    int[] were = rows[s].clone();
    for (int m = 0; m < n; m++) rows[t][j + m] = were[i + m];
    return 1;
  }

  int count(int what) {
    int inside = 0;
    for (boolean in : inBin) if (in) inside++;
    int[] counts = {
      corners.length, fingers.size(), friction, spots.size(), probes.size(), grips, finding, inside, inBin.size()
    };
    return what < 0 || what >= counts.length ? -2 : counts[what];
  }

  long digest() {
    List<Long> told = new ArrayList<>();
    for (int what : new int[] {0, 1, 2, 3, 4, 5, 7, 8}) told.add((long) count(what));
    for (int[] corner : corners) for (int number : corner) told.add((long) number);
    for (long[] triple : triples(fingers)) for (long number : triple) told.add(number);
    told.add((long) holds());
    told.add((long) poses());
    told.add((long) stuck());
    long h = 17;
    for (long number : told) h = 31 * h + number;
    return h;
  }
}
