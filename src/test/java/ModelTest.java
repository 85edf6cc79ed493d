import java.util.Random;

/** All promises: long runs of calls, the same told to a bench and to a model that goes other ways. */
public final class ModelTest {
  private static final Due due = new Due();
  private static final int RUNS = 150;

  public static void main(String[] args) {
    for (int run = 0; run < RUNS && due.wrong() < 20; run++) {
      due.run("run " + run);
      Random random = new Random(run);
      Pair pair = new Pair(due);
      tellPart(pair, random);
      if (run % 3 == 0) tellMany(pair, random);
      for (int i = 0; i < 300 && due.wrong() < 20; i++) {
        if (random.nextInt(60) == 0) tellPart(pair, random);
        call(pair, random);
      }
      pair.compare();
    }
    due.end();
  }

  /** A part whose corners go round some place, or (seldom) jump about; SHEET 1 tells it. */
  private static void tellPart(Pair pair, Random random) {
    int n = 3 + random.nextInt(8);
    boolean jumps = random.nextInt(5) == 0;
    int size = 1 + random.nextInt(30);
    pair.call(29, 1, random.nextInt(3), 2 * n + random.nextInt(3));
    for (int form = 0; form < 3; form++) {
      for (int i = 0; i < n; i++) {
        double turn = 2 * Math.PI * (jumps ? random.nextDouble() : (i + random.nextDouble() / 2) / n);
        double far = size * (0.4 + 0.6 * random.nextDouble());
        pair.call(31, 1, form, 2 * i, (int) Math.round(far * Math.cos(turn)));
        pair.call(31, 1, form, 2 * i + 1, (int) Math.round(far * Math.sin(turn)));
      }
    }
    pair.call(0, 1, n);
  }

  private static void tellMany(Pair pair, Random random) {
    for (int i = 0; i < 10; i++) {
      pair.call(21);
      pair.call(24);
      pair.call(18, small(random, 20), small(random, 20));
    }
    pair.call(29, 0, random.nextInt(3), random.nextInt(20));
  }

  private static int small(Random random, int most) {
    return random.nextInt(2 * most + 1) - most;
  }

  /** A number from just below least to just above most; seldom any. */
  private static int near(Random random, int least, int most) {
    int kind = random.nextInt(40);
    if (kind == 0) return random.nextInt();
    if (kind == 1) return random.nextBoolean() ? Integer.MIN_VALUE : Integer.MAX_VALUE;
    if (kind == 2) return least - 1;
    if (kind == 3) return most + 1;
    if (kind == 4) return random.nextBoolean() ? least : most;
    return least + random.nextInt(Math.max(1, most - least + 1));
  }

  private static void call(Pair pair, Random random) {
    GripBench x = pair.bench;
    int edge = near(random, 0, x.count(0) - 1);
    int k = near(random, 0, 8);
    int s = near(random, 0, 3);
    int form = near(random, 0, 2);
    int which = random.nextInt(Pair.CALLS);
    switch (which) {
      case 0: pair.call(0, s, near(random, 3, 10)); break;
      case 1: pair.call(1, edge, near(random, 0, 1)); break;
      case 3: pair.call(3, near(random, -260, 260), near(random, -260, 260)); break;
      case 4: case 13: pair.call(which, edge, k, random.nextInt(3) == 0 ? near(random, 0, 1000) : random.nextInt(4));
        break;
      case 5: pair.call(5, near(random, 0, x.count(1) - 1), edge, k); break;
      case 6: if (random.nextInt(5) == 0) pair.call(6); break;
      case 7: pair.call(7, random.nextInt(3) == 0 ? 0 : near(random, 0, 16)); break;
      case 8: pair.call(8, near(random, 0, 2 * x.count(1) - 1), near(random, 0, 2)); break;
      case 11: pair.call(11, near(random, 0, x.count(1) - 1)); break;
      case 16: case 17: cup(pair, random, which); break;
      case 18: pair.call(18, near(random, -40, 40), near(random, -40, 40)); break;
      case 20: pair.call(20, near(random, 0, 80)); pair.call(20, near(random, 0, x.poses() - 1)); break;
      case 22: pair.call(22, grip(pair, random), grip(pair, random), near(random, 1, 1000)); break;
      case 23: pair.call(23, grip(pair, random), grip(pair, random)); break;
      case 25: pair.call(25, part(pair, random), part(pair, random)); break;
      case 26: case 27: pair.call(which, part(pair, random)); break;
      case 29: pair.call(29, s, form, near(random, 0, random.nextInt(2) == 0 ? 60 : 12)); break;
      case 30: if (random.nextInt(4) == 0) pair.call(30, s); break;
      case 31: for (int f = 0; f < 3; f++) {
        pair.call(31, s, f, near(random, 0, 20), random.nextInt(3) == 0 ? random.nextInt() : random.nextInt(3));
      }
        break;
      case 32: pair.call(32, s, form, near(random, 0, 20)); break;
      case 33: copy(pair, random, s); break;
      case 34: pair.call(34, near(random, 0, 8)); break;
      default: pair.call(which, near(random, 0, 2));
    }
  }

  private static int grip(Pair pair, Random random) {
    return near(random, 0, pair.bench.count(5) - 1);
  }

  private static int part(Pair pair, Random random) {
    return near(random, 0, pair.bench.count(8) - 1);
  }

  private static void copy(Pair pair, Random random, int s) {
    int t = random.nextInt(3) == 0 ? s : near(random, 0, 3);
    pair.call(33, s, near(random, 0, 8), t, near(random, 0, 8), near(random, 0, 8));
    for (int i = 0; i < 12; i++) for (int form = 0; form < 3; form++) pair.call(32, t, form, i);
  }

  /** A cup on a place of the rim or near the middle, with seals about the one that is just enough. */
  private static void cup(Pair pair, Random random, int which) {
    GripBench x = pair.bench;
    int i = random.nextInt(x.count(0));
    int px = random.nextInt(3) == 0 ? near(random, -240, 240) : 8 * x.corner(i, 0);
    int py = random.nextInt(3) == 0 ? near(random, -240, 240) : 8 * x.corner(i, 1);
    if (random.nextInt(3) == 0) {
      px = 8 * x.middle(1) / (3 * x.middle(0));
      py = 8 * x.middle(2) / (3 * x.middle(0));
    }
    int w = near(random, 1, 20);
    pair.call(17, px, py, w);
    int s = x.seal(px, py, w);
    for (int more = -1; more <= 1; more++) pair.call(16, px, py, w, s + more);
    pair.call(16, px, py, w, near(random, 0, 100000));
  }
}
