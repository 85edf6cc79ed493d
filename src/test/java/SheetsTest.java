/** Promises 31 to 35: sheet, lose, put, get, copy; and the findings. */
public final class SheetsTest {
  private static final Due due = new Due();
  private static final int LEAST = Integer.MIN_VALUE;

  public static void main(String[] args) {
    sheet();
    lose();
    put();
    putRefused();
    getRefused();
    copy();
    copyWithin();
    copyRefused();
    due.end();
  }

  private static void sheet() {
    due.run("sheet");
    GripBench x = new GripBench();
    int[][] bad = {{-1, 0, 3}, {4, 0, 3}, {0, -1, 3}, {0, 3, 3}, {0, 0, 61}, {4, 0, -1}, {0, 3, -1}};
    for (int[] b : bad) due.is("sheet of " + java.util.Arrays.toString(b), x.sheet(b[0], b[1], b[2]), -2);
    due.is("count(6)", x.count(6), 0);
    due.is("sheet(0, 0, -1)", x.sheet(0, 0, -1), -15);
    due.is("count(6)", x.count(6), 5);
    due.is("sheet of the least int", x.sheet(0, 0, LEAST), -15);
    due.is("lose(0)", x.lose(0), -11);
    for (int s = 0; s < 4; s++) due.is("sheet", x.sheet(s, s % 3, 60), 60);
    for (int s = 0; s < 4; s++) due.is("put", x.put(s, s % 3, 59, s + 1), 1);
    for (int s = 0; s < 4; s++) due.is("get", x.get(s, s % 3, 59), s + 1);
    for (int s = 0; s < 4; s++) due.is("get", x.get(s, s % 3, 0), 0);
    due.is("put", x.put(0, 0, 0, 5), 1);
    due.is("get", x.get(0, 0, 60), LEAST);
    due.is("a new row", x.sheet(0, 2, 60), 60);
    for (int i = 0; i < 60; i++) due.is("its items are 0", x.get(0, 2, i), 0);
    due.is("the next row stays", x.get(1, 1, 59), 2);
    due.is("sheet(0, -1 refused)", x.sheet(0, 0, -1), -15);
    due.is("the row stays", x.get(0, 2, 59), 0);
    due.is("an empty row", x.sheet(0, 1, 0), 0);
    due.is("get", x.get(0, 1, 0), LEAST);
    due.is("count(6)", x.count(6), 2);
    due.is("lose(0)", x.lose(0), 0);
  }

  private static void lose() {
    due.run("lose");
    GripBench x = new GripBench();
    due.is("lose(-1)", x.lose(-1), -2);
    due.is("lose(4)", x.lose(4), -2);
    due.is("count(6)", x.count(6), 0);
    due.is("lose(3)", x.lose(3), -11);
    due.is("count(6)", x.count(6), 1);
    Told.row(x, 3, 1, 5, 6, 7);
    due.is("lose(3)", x.lose(3), 3);
    due.is("get(3, 1, 0)", x.get(3, 1, 0), LEAST);
    due.is("lose(3)", x.lose(3), -11);
    x.sheet(3, 1, 3);
    due.is("items are 0 again", x.get(3, 1, 1), 0);
  }

  private static void put() {
    due.run("put");
    GripBench x = new GripBench();
    int[] told = {127, 128, -128, -129, 255, 256, 32767, 32768, -32768, -32769, 65536, Integer.MAX_VALUE, LEAST};
    int[][] kept = {
      {127, -128, -128, 127, -1, 0, -1, 0, 0, -1, 0, -1, 0},
      {127, 128, -128, -129, 255, 256, 32767, -32768, -32768, 32767, 0, -1, 0},
      told
    };
    for (int form = 0; form < 3; form++) {
      Told.row(x, form, form, told);
      for (int i = 0; i < told.length; i++) due.is("get of " + told[i], x.get(form, form, i), kept[form][i]);
    }
    due.is("count(6)", x.count(6), 0);
  }

  private static void putRefused() {
    due.run("put refused");
    GripBench x = new GripBench();
    due.is("NULL", x.put(1, 0, 0, 5), -11);
    x.sheet(1, 1, 2);
    int[][] bad = {{-1, 1}, {4, 1}, {1, -1}, {1, 3}};
    for (int[] b : bad) due.is("put(" + b[0] + ", " + b[1] + ", ..)", x.put(b[0], b[1], 0, 5), -2);
    due.is("count(6)", x.count(6), 1);
    due.is("CAST ahead of INDEX", x.put(1, 0, 2, 5), -13);
    due.is("count(6)", x.count(6), 3);
    due.is("CAST", x.put(1, 2, 0, 5), -13);
    due.is("INDEX", x.put(1, 1, 2, 5), -12);
    due.is("count(6)", x.count(6), 2);
    due.is("INDEX below 0", x.put(1, 1, -1, 5), -12);
    due.is("INDEX far below 0", x.put(1, 1, LEAST, 5), -12);
    due.is("INDEX far above", x.put(1, 1, Integer.MAX_VALUE, 5), -12);
    for (int i = 0; i < 2; i++) due.is("the items stay", x.get(1, 1, i), 0);
    x.sheet(0, 1, 60);
    due.is("INDEX behind a full row", x.put(0, 1, 60, 5), -12);
    due.is("the next row stays", x.get(1, 1, 0), 0);
    due.is("INDEX ahead of a row", x.put(1, 1, -1, 5), -12);
    due.is("the row ahead stays", x.get(0, 1, 59), 0);
  }

  private static void getRefused() {
    due.run("get refused");
    GripBench x = new GripBench();
    int[][] bad = {{-1, 1}, {4, 1}, {1, -1}, {1, 3}};
    for (int[] b : bad) due.is("get(" + b[0] + ", " + b[1] + ", 0)", x.get(b[0], b[1], 0), LEAST);
    due.is("BAD is no finding", x.count(6), 0);
    due.is("NULL", x.get(1, 1, 0), LEAST);
    due.is("count(6)", x.count(6), 1);
    Told.row(x, 1, 1, 8, 9);
    due.is("CAST ahead of INDEX", x.get(1, 2, 2), LEAST);
    due.is("count(6)", x.count(6), 3);
    int[] beyond = {2, -1, LEAST, Integer.MAX_VALUE};
    for (int i : beyond) due.is("get(1, 1, " + i + ")", x.get(1, 1, i), LEAST);
    due.is("count(6)", x.count(6), 2);
    due.is("get(1, 1, 1)", x.get(1, 1, 1), 9);
    due.is("a finding stays the latest", x.count(6), 2);
  }

  private static void items(GripBench x, int s, int form, int... items) {
    for (int i = 0; i < items.length; i++) due.is("item " + i + " of " + s, x.get(s, form, i), items[i]);
  }

  private static void copy() {
    due.run("copy");
    for (int form = 0; form < 3; form++) {
      GripBench x = new GripBench();
      Told.row(x, 0, form, 1, 2, 3, 4, 5);
      Told.row(x, 3, form, 10, 20, 30);
      due.is("copy(0, 2, 3, 1, 2)", x.copy(0, 2, 3, 1, 2), 1);
      items(x, 0, form, 1, 2, 3, 4, 5);
      items(x, 3, form, 10, 3, 4);
      due.is("copy(3, 0, 0, 0, 3)", x.copy(3, 0, 0, 0, 3), 1);
      items(x, 0, form, 10, 3, 4, 4, 5);
      due.is("the whole of it", x.copy(3, 0, 0, 2, 3), 1);
      items(x, 0, form, 10, 3, 10, 3, 4);
      due.is("none", x.copy(3, 3, 0, 5, 0), 1);
      items(x, 0, form, 10, 3, 10, 3, 4);
    }
  }

  private static void copyWithin() {
    due.run("copy within one");
    GripBench x = new GripBench();
    Told.row(x, 2, 1, 1, 2, 3, 4, 5, 6);
    due.is("up", x.copy(2, 0, 2, 1, 5), 1);
    items(x, 2, 1, 1, 1, 2, 3, 4, 5);
    due.is("down", x.copy(2, 2, 2, 0, 4), 1);
    items(x, 2, 1, 2, 3, 4, 5, 4, 5);
    due.is("in place", x.copy(2, 1, 2, 1, 5), 1);
    items(x, 2, 1, 2, 3, 4, 5, 4, 5);
  }

  private static void copyRefused() {
    due.run("copy refused");
    GripBench x = new GripBench();
    due.is("s -1", x.copy(-1, 0, 0, 0, 0), -2);
    due.is("s 4", x.copy(4, 0, 0, 0, 0), -2);
    due.is("t -1", x.copy(0, 0, -1, 0, 0), -2);
    due.is("t 4", x.copy(0, 0, 4, 0, 0), -2);
    due.is("count(6)", x.count(6), 0);
    Told.row(x, 0, 0, 1, 2, 3);
    due.is("NULL t", x.copy(0, 0, 1, 0, 1), -11);
    due.is("NULL s", x.copy(1, 0, 0, 0, 1), -11);
    due.is("NULL ahead of INDEX", x.copy(1, 0, 0, 0, -1), -11);
    due.is("count(6)", x.count(6), 1);
    Told.row(x, 1, 1, 4, 5, 6);
    due.is("STORE", x.copy(0, 0, 1, 0, 1), -14);
    due.is("STORE with none", x.copy(0, 0, 1, 0, 0), -14);
    due.is("STORE ahead of INDEX", x.copy(0, -1, 1, 0, 9), -14);
    due.is("count(6)", x.count(6), 4);
    Told.row(x, 1, 0, 4, 5, 6, 7);
    int most = Integer.MAX_VALUE;
    int[][] beyond = {
      {-1, 0, 1}, {0, -1, 1}, {0, 0, -1}, {0, 0, 4}, {1, 0, 3}, {3, 0, 1}, {0, 2, 3}, {0, 4, 1}, {4, 0, 0},
      {0, 5, 0}, {-1, 0, 0}, {0, -1, 0}, {most, 0, 1}, {0, most, 1}, {1, 0, most}, {0, 1, most}, {most, most, most},
      {LEAST, 0, 1}, {0, LEAST, 1}, {0, 0, LEAST}, {LEAST, LEAST, LEAST}
    };
    for (int[] b : beyond) {
      due.is("copy " + java.util.Arrays.toString(b), x.copy(0, b[0], 1, b[1], b[2]), -12);
    }
    due.is("count(6)", x.count(6), 2);
    items(x, 0, 0, 1, 2, 3);
    items(x, 1, 0, 4, 5, 6, 7);
    due.is("none from the ends", x.copy(0, 3, 1, 4, 0), 1);
    due.is("count(6) stays", x.count(6), 2);
  }
}
