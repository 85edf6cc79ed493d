/** New benches that have been told something. */
final class Told {
  static final long LEAST = Long.MIN_VALUE;

  private Told() {}

  /** Tells SHEET s as a row of a FORM with these items. */
  static void row(GripBench x, int s, int form, int... items) {
    x.sheet(s, form, items.length);
    for (int i = 0; i < items.length; i++) x.put(s, form, i, items[i]);
  }

  /** A bench with THE PART of these CORNERS, told by SHEET 3, that is LOST again. */
  static GripBench part(int... corners) {
    GripBench x = new GripBench();
    row(x, 3, 0, corners);
    int area = x.shape(3, corners.length / 2);
    if (area <= 0) throw new IllegalStateException("no part: " + area);
    x.lose(3);
    return x;
  }

  /** FINGERS, by EDGE and k. */
  static GripBench fingers(GripBench x, int... stands) {
    for (int i = 0; i < stands.length; i += 2) x.finger(stands[i], stands[i + 1]);
    return x;
  }

  static GripBench square() {
    return part(0, 0, 10, 0, 10, 10, 0, 10);
  }
}
