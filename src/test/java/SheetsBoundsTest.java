/** The sentences about SHEETS and FINDINGS that name a bound: promises 31 to 35. */
public final class SheetsBoundsTest {
  private static final Due due = new Due();
  private static final int LEAST = Integer.MIN_VALUE;
  private static final int MOST = Integer.MAX_VALUE;

  public static void main(String[] args) {
    sheetsAndForms();
    noneToSixty();
    aNewRow();
    loseOfEach();
    lowestBits();
    itemsThereAre();
    castOfEach();
    findingsByNumber();
    wholeRows();
    asTheyWere();
    noneOfThem();
    notSoMany();
    firstThatFits();
    formOfCopies();
    due.end();
  }

  /** "SHEETS 0 .. 3", "a FORM: 0 bytes, 1 shorts, 2 ints". */
  private static void sheetsAndForms() {
    due.run("31: SHEET, FORM");
    for (int s = 0; s < 4; s++) {
      for (int form = 0; form < 3; form++) {
        GripBench x = new GripBench();
        due.is("sheet", x.sheet(s, form, 2), 2);
        due.is("put", x.put(s, form, 1, 100), 1);
        due.is("get", x.get(s, form, 1), 100);
        for (int other = 0; other < 4; other++) if (other != s) due.is("the rest is LOST", x.lose(other), -11);
      }
    }
    int[] noSheet = {-1, 4, LEAST, MOST};
    int[] noForm = {-1, 3, LEAST, MOST};
    GripBench x = new GripBench();
    for (int s : noSheet) for (int form = 0; form < 3; form++) due.is("sheet " + s, x.sheet(s, form, 1), -2);
    for (int form : noForm) for (int s = 0; s < 4; s++) due.is("form " + form, x.sheet(s, form, 1), -2);
    due.is("count(6)", x.count(6), 0);
    for (int s = 0; s < 4; s++) due.is("all are LOST still", x.lose(s), -11);
  }

  /** "of 0 to 60 items"; "BAD: .. above 60; SIZE": below 0. */
  private static void noneToSixty() {
    due.run("31: 0 to 60 items");
    GripBench x = new GripBench();
    for (int n = 0; n <= 60; n++) {
      due.is("sheet of " + n, x.sheet(n % 4, n % 3, n), n);
      due.is("lose", x.lose(n % 4), n);
    }
    int[] above = {61, 62, 256, MOST};
    for (int n : above) due.is("sheet of " + n, x.sheet(0, 0, n), -2);
    due.is("count(6)", x.count(6), 0);
    due.is("LOST still", x.lose(0), -11);
    int[] below = {-1, -2, -60, -256, LEAST};
    for (int n : below) {
      x.get(0, 0, 0);
      due.is("count(6) ahead", x.count(6), 1);
      due.is("sheet of " + n, x.sheet(0, 0, n), -15);
      due.is("count(6)", x.count(6), 5);
      due.is("BAD SHEET fits first", x.sheet(4, 0, n), -2);
      due.is("BAD FORM fits first", x.sheet(0, 3, n), -2);
    }
    due.is("LOST still", x.lose(0), -11);
  }

  /** "A SHEET is a new row": of 0, whatever was there; a refused one leaves what was there. */
  private static void aNewRow() {
    due.run("31: a new row");
    GripBench x = new GripBench();
    Told.row(x, 1, 2, 5, 6, 7);
    due.is("above 60", x.sheet(1, 0, 61), -2);
    due.is("below 0", x.sheet(1, 0, -1), -15);
    due.is("it stays", x.get(1, 2, 2), 7);
    due.is("the same again", x.sheet(1, 2, 3), 3);
    for (int i = 0; i < 3; i++) due.is("0 at first", x.get(1, 2, i), 0);
    Told.row(x, 1, 2, 5, 6, 7);
    due.is("a short one", x.sheet(1, 2, 1), 1);
    due.is("and a long one", x.sheet(1, 2, 60), 60);
    for (int i = 0; i < 60; i++) due.is("0 at first", x.get(1, 2, i), 0);
    due.is("another FORM", x.sheet(1, 0, 60), 60);
    due.is("the former is none", x.get(1, 2, 0), LEAST);
    due.is("CAST", x.count(6), 3);
  }

  private static void loseOfEach() {
    due.run("32: lose");
    for (int s = 0; s < 4; s++) {
      for (int n = 0; n <= 60; n += 30) {
        GripBench x = new GripBench();
        for (int other = 0; other < 4; other++) x.sheet(other, 0, other == s ? n : 7);
        due.is("lose", x.lose(s), n);
        due.is("count(6)", x.count(6), 0);
        due.is("again", x.lose(s), -11);
        due.is("NULL", x.count(6), 1);
        for (int other = 0; other < 4; other++) if (other != s) due.is("the rest stays", x.lose(other), 7);
      }
    }
    int[] none = {-1, 4, LEAST, MOST};
    GripBench x = new GripBench();
    for (int s : none) due.is("lose(" + s + ")", x.lose(s), -2);
    due.is("count(6)", x.count(6), 0);
  }

  /** "becomes v (the lowest bits that it has)": the last numbers that stay, and the first that do not. */
  private static void lowestBits() {
    due.run("33: the lowest bits");
    int[][] told = {
      {0, 127, 127}, {0, 128, -128}, {0, -128, -128}, {0, -129, 127}, {0, 255, -1}, {0, 256, 0}, {0, 257, 1},
      {0, -256, 0}, {0, -255, 1}, {0, MOST, -1}, {0, LEAST, 0}, {0, LEAST + 128, -128}, {0, 32767, -1},
      {1, 32767, 32767}, {1, 32768, -32768}, {1, -32768, -32768}, {1, -32769, 32767}, {1, 65535, -1}, {1, 65536, 0},
      {1, 128, 128}, {1, -129, -129}, {1, 65537, 1}, {1, MOST, -1}, {1, LEAST, 0}, {1, LEAST + 32768, -32768},
      {2, 128, 128}, {2, 32768, 32768}, {2, -32769, -32769}, {2, 65536, 65536}, {2, MOST, MOST}, {2, LEAST + 1, LEAST + 1}
    };
    for (int[] t : told) {
      GripBench x = new GripBench();
      x.sheet(2, t[0], 3);
      due.is("put", x.put(2, t[0], 1, t[1]), 1);
      due.is("FORM " + t[0] + ", " + t[1], x.get(2, t[0], 1), t[2]);
      due.is("the one ahead", x.get(2, t[0], 0), 0);
      due.is("the one behind", x.get(2, t[0], 2), 0);
      due.is("count(6)", x.count(6), 0);
    }
    // The least int is an item as any other: no FINDING tells it from a refusal.
    GripBench x = new GripBench();
    Told.row(x, 0, 2, LEAST);
    due.is("get", x.get(0, 2, 0), LEAST);
    due.is("no FINDING", x.count(6), 0);
  }

  /** INDEX: "there is no such item": the last that there is, and the first that there is not, of 0 to 60. */
  private static void itemsThereAre() {
    due.run("33, 34: INDEX");
    for (int n = 0; n <= 60; n++) {
      GripBench x = new GripBench();
      x.sheet(1, 1, n);
      if (n > 0) {
        due.is("put the first", x.put(1, 1, 0, 7), 1);
        due.is("put the last", x.put(1, 1, n - 1, 8), 1);
        due.is("get the last", x.get(1, 1, n - 1), 8);
        due.is("get the first", x.get(1, 1, 0), n == 1 ? 8 : 7);
      }
      due.is("count(6)", x.count(6), 0);
      int[] none = {-1, n, n + 1, 60, 61, LEAST, MOST};
      for (int i : none) {
        due.is("put " + i + " of " + n, x.put(1, 1, i, 9), -12);
        due.is("get " + i + " of " + n, x.get(1, 1, i), LEAST);
        due.is("count(6)", x.count(6), 2);
      }
      due.is("lose", x.lose(1), n);
    }
    // Full rows side by side: what is put beyond one is not put into the next.
    GripBench x = new GripBench();
    for (int s = 0; s < 4; s++) x.sheet(s, 0, 60);
    for (int s = 0; s < 4; s++) due.is("put 60", x.put(s, 0, 60, 9) + x.put(s, 0, -1, 9), -24);
    for (int s = 0; s < 4; s++) due.is("the ends", x.get(s, 0, 0) + x.get(s, 0, 59), 0);
  }

  /** CAST: "it has another FORM": each of each other, ahead of INDEX, also of a row of no items. */
  private static void castOfEach() {
    due.run("33, 34: CAST");
    int[] items = {0, 1, -1, 60, LEAST, MOST};
    for (int has = 0; has < 3; has++) {
      for (int as = 0; as < 3; as++) {
        for (int n = 0; n <= 1; n++) {
          for (int i : items) {
            GripBench x = new GripBench();
            x.sheet(3, has, n);
            int want = as != has ? 3 : i != 0 || n == 0 ? 2 : 0;
            due.is("put", x.put(3, as, i, 5), want == 0 ? 1 : -10 - want);
            due.is("count(6)", x.count(6), want);
            due.is("get", x.get(3, as, i), want == 0 ? 5 : LEAST);
            due.is("count(6)", x.count(6), want);
            due.is("it is as it was", x.get(3, has, 0), n == 0 ? LEAST : want == 0 ? 5 : 0);
          }
        }
      }
    }
  }

  /** "answers -10 less the number": 1 NULL, 2 INDEX, 3 CAST, 4 STORE, 5 SIZE; "the number of the latest". */
  private static void findingsByNumber() {
    due.run("FINDINGS");
    GripBench x = new GripBench();
    due.is("0 before any", x.count(6), 0);
    due.is("BAD is none", x.lose(4) + x.put(0, 3, 0, 0) + x.copy(4, 0, 0, 0, 0) + x.sheet(0, 0, 61), -8);
    due.is("NOT is none", x.take(), -3);
    due.is("0 still", x.count(6), 0);
    for (int round = 0; round < 2; round++) {
      due.is("SIZE", x.sheet(0, 0, -1), -15);
      due.is("5", x.count(6), 5);
      due.is("NULL", x.lose(2), -11);
      due.is("1", x.count(6), 1);
      x.sheet(0, 0, 1);
      x.sheet(1, 1, 1);
      due.is("a taken call is none", x.count(6), 1);
      due.is("INDEX", x.put(0, 0, 1, 0), -12);
      due.is("2", x.count(6), 2);
      due.is("CAST", x.put(0, 1, 0, 0), -13);
      due.is("3", x.count(6), 3);
      due.is("STORE", x.copy(0, 0, 1, 0, 1), -14);
      due.is("4", x.count(6), 4);
      due.is("the same again", x.copy(0, 0, 1, 0, 1), -14);
      due.is("4", x.count(6), 4);
    }
    due.is("other refusals leave it", x.friction(17) + x.seal(999, 0, 1), -5);
    due.is("4 still", x.count(6), 4);
  }

  private static void row(GripBench x, int s, int form, int... items) {
    for (int i = 0; i < items.length; i++) due.is("item " + i + " of " + s, x.get(s, form, i), items[i]);
  }

  /** Promise 35: all of a row of 60, from and to each SHEET. */
  private static void wholeRows() {
    due.run("35: whole rows");
    for (int s = 0; s < 4; s++) {
      for (int t = 0; t < 4; t++) {
        GripBench x = new GripBench();
        x.sheet(s, 2, 60);
        if (t != s) x.sheet(t, 2, 60);
        for (int i = 0; i < 60; i++) x.put(s, 2, i, 1000 + i);
        due.is("copy", x.copy(s, 0, t, 0, 60), 1);
        for (int i = 0; i < 60; i++) due.is("item " + i, x.get(t, 2, i), 1000 + i);
        for (int i = 0; i < 60; i++) due.is("they stay", x.get(s, 2, i), 1000 + i);
        due.is("the last to the first", x.copy(s, 59, t, 0, 1), 1);
        due.is("item 0", x.get(t, 2, 0), 1059);
        due.is("the first to the last", x.copy(s, 0, t, 59, 1), 1);
        due.is("item 59", x.get(t, 2, 59), s == t ? 1059 : 1000);
      }
    }
  }

  /** "(perhaps s, as they were)": every run of a row of six onto every place in it. */
  private static void asTheyWere() {
    due.run("35: as they were");
    for (int i = 0; i <= 6; i++) {
      for (int j = 0; j <= 6; j++) {
        for (int n = 0; n <= 6; n++) {
          GripBench x = new GripBench();
          Told.row(x, 1, 0, 11, 12, 13, 14, 15, 16);
          boolean fits = i + n <= 6 && j + n <= 6;
          due.is("copy " + i + ", " + j + ", " + n, x.copy(1, i, 1, j, n), fits ? 1 : -12);
          for (int at = 0; at < 6; at++) {
            boolean isOver = fits && at >= j && at < j + n;
            due.is("item " + at, x.get(1, 0, at), isOver ? 11 + at - j + i : 11 + at);
          }
          due.is("count(6)", x.count(6), fits ? 0 : 2);
        }
      }
    }
  }

  /** "(with n 0, too, if i or j is above how many there are)": at how many there are, none come. */
  private static void noneOfThem() {
    due.run("35: with n 0");
    for (int many = 0; many <= 60; many += 20) {
      for (int other = 0; other <= 60; other += 30) {
        GripBench x = new GripBench();
        x.sheet(0, 1, many);
        x.sheet(1, 1, other);
        due.is("at the beginnings", x.copy(0, 0, 1, 0, 0), 1);
        due.is("at the ends", x.copy(0, many, 1, other, 0), 1);
        due.is("i above", x.copy(0, many + 1, 1, other, 0), -12);
        due.is("j above", x.copy(0, many, 1, other + 1, 0), -12);
        due.is("both above", x.copy(0, many + 1, 1, other + 1, 0), -12);
        due.is("i below", x.copy(0, -1, 1, 0, 0), -12);
        due.is("j below", x.copy(0, 0, 1, -1, 0), -12);
        due.is("one of none", x.copy(0, many, 1, 0, 1), -12);
        due.is("one to none", x.copy(0, 0, 1, other, 1), -12);
        due.is("n below", x.copy(0, 0, 1, 0, -1), -12);
        due.is("n below at the ends", x.copy(0, many, 1, other, -1), -12);
        due.is("in one SHEET at its end", x.copy(0, many, 0, many, 0), 1);
        due.is("in one SHEET above", x.copy(0, many + 1, 0, many, 0), -12);
      }
    }
  }

  /** "INDEX: below 0, not so many": by one too many of s, and of t; numbers whose sums run over an int. */
  private static void notSoMany() {
    due.run("35: not so many");
    for (int i = 0; i <= 5; i++) {
      GripBench x = new GripBench();
      Told.row(x, 0, 2, 1, 2, 3, 4, 5);
      x.sheet(1, 2, 60);
      due.is("all behind " + i, x.copy(0, i, 1, 0, 5 - i), 1);
      due.is("one more", x.copy(0, i, 1, 0, 6 - i), -12);
      x.sheet(1, 2, 60);
      due.is("to the end", x.copy(1, 0, 0, i, 5 - i), 1);
      due.is("one more to the end", x.copy(1, 0, 0, i, 6 - i), -12);
    }
    GripBench x = new GripBench();
    Told.row(x, 0, 2, 1, 2, 3);
    int[] far = {LEAST, LEAST + 1, MOST, MOST - 1, -1, 1 << 30, -(1 << 30)};
    for (int a : far) {
      for (int b : far) {
        due.is("i, n", x.copy(0, a, 0, 0, b), -12);
        due.is("j, n", x.copy(0, 0, 0, a, b), -12);
        due.is("i, j", x.copy(0, a, 0, b, 0), -12);
        due.is("all", x.copy(0, a, 0, b, a), -12);
      }
    }
    row(x, 0, 2, 1, 2, 3);
  }

  /** "BAD: the SHEETS; NULL: s, t; STORE; INDEX". */
  private static void firstThatFits() {
    due.run("35: the first that fits");
    GripBench x = new GripBench();
    Told.row(x, 0, 0, 1);
    Told.row(x, 1, 1, 1);
    due.is("BAD s, t LOST", x.copy(4, -1, 2, -1, -1), -2);
    due.is("BAD t, s LOST", x.copy(2, -1, 4, -1, -1), -2);
    due.is("s LOST", x.copy(2, -1, 0, -1, -1), -11);
    due.is("t LOST", x.copy(0, -1, 2, -1, -1), -11);
    due.is("both LOST", x.copy(2, 0, 3, 0, 0), -11);
    due.is("one LOST to itself", x.copy(2, 0, 2, 0, 0), -11);
    due.is("unlike, and no such items", x.copy(0, -1, 1, 5, 5), -14);
    due.is("unlike, none of them", x.copy(1, 0, 0, 0, 0), -14);
    due.is("no such items", x.copy(0, 0, 0, 0, 2), -12);
    row(x, 0, 0, 1);
    row(x, 1, 1, 1);
  }

  /** Copies keep what a FORM keeps: the least and the greatest numbers of each. */
  private static void formOfCopies() {
    due.run("35: each FORM");
    int[][] ends = {{-128, 127}, {-32768, 32767}, {LEAST, MOST}};
    for (int form = 0; form < 3; form++) {
      for (int to = 0; to < 3; to++) {
        GripBench x = new GripBench();
        Told.row(x, 0, form, ends[form]);
        x.sheet(1, to, 2);
        due.is("copy", x.copy(0, 0, 1, 0, 2), to == form ? 1 : -14);
        if (to == form) row(x, 1, form, ends[form]);
        else row(x, 1, to, 0, 0);
      }
    }
  }
}
