/** Benches on which nothing, something and all that they take has been told. */
final class States {
  /** Round to the left, none in line with two others; AREA 152. */
  static final int[] TEN_CORNERS = {4, 0, 8, 1, 10, 3, 10, 6, 8, 9, 5, 10, 2, 9, 0, 6, 0, 3, 2, 1};

  private States() {}

  static GripBench fresh() {
    return new GripBench();
  }

  /**
   * A square, 3 FINGERS that HOLD not, 4 SPOTS that HOLD, 2 PROBES, 4 GRIPS, 6 PARTS: 0 under 1 under 2, 3 and 4 on
   * each other, 5 TAKEN. SHEET 0 has 3 ints, 1 has 8 bytes (a triangle and 31, 0), 2 no shorts, 3 is LOST.
   */
  static GripBench some() {
    GripBench x = Told.square();
    x.get(3, 0, 0);
    Told.fingers(x, 0, 2, 1, 6, 2, 2);
    for (int edge = 0; edge < 4; edge++) x.spot(edge, edge % 2 == 0 ? 2 : 6, 10 + edge);
    x.probe(0, 5);
    x.probe(10, 0);
    for (int i = 0; i < 4; i++) x.grip();
    x.link(0, 1, 5);
    x.link(1, 2, 7);
    for (int i = 0; i < 6; i++) x.drop();
    int[][] lying = {{1, 0}, {2, 1}, {3, 4}, {4, 3}};
    for (int[] pair : lying) x.on(pair[0], pair[1]);
    x.pick(5);
    Told.row(x, 0, 2, 1, 0, 1);
    Told.row(x, 1, 0, 0, 0, 5, 0, 0, 5, 31, 0);
    Told.row(x, 2, 1);
    return x;
  }

  /** 10 CORNERS, 8 FINGERS, 7 SPOTS, 20 PROBES, 10 GRIPS, 12 PARTS of which 11 is TAKEN, SHEETS of 60 items. */
  static GripBench full() {
    GripBench x = Told.part(TEN_CORNERS);
    for (int i = 0; i < 8; i++) x.finger(9 - i, 8 - i);
    for (int i = 0; i < 7; i++) x.spot(9 - i, i, 1000 - i);
    x.friction(16);
    for (int i = 0; i < 20; i++) x.probe(i % 2 * 80 - 40, i - 10);
    for (int i = 0; i < 10; i++) x.grip();
    for (int i = 0; i < 9; i++) x.link(i, i + 1, 1000 - i);
    for (int i = 0; i < 12; i++) x.drop();
    for (int i = 0; i < 10; i++) x.on(i + 1, i);
    x.pick(11);
    int[] items = new int[60];
    for (int i = 0; i < 60; i++) items[i] = i < 20 ? 2 : i;
    for (int s = 0; s < 4; s++) {
      x.sheet(s, s % 3, 60);
      for (int i = 0; i < 60; i += s == 0 ? 1 : 19) x.put(s, s % 3, i, items[i]);
    }
    return x;
  }
}
