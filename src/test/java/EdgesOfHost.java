/** Promises 26 to 30: sheets, ants by a sheet, and kinds. */
final class EdgesOfHost extends EdgesOf {
  private static final int[] NO_SHEET = {-1, 4, MIN, MAX};

  private EdgesOfHost(Edges e) {
    super(e);
  }

  static void look(Edges e) {
    EdgesOfHost t = new EdgesOfHost(e);
    t.sheetBecomes();
    t.sheetIsRefused();
    t.cellBecomes();
    t.cellOfSorts();
    t.cellIsRefused();
    t.copyComes();
    t.copyAsTheyWere();
    t.copyIsRefused();
    t.antsCome();
    t.antsLeftOut();
    t.antsAreRefused();
    t.antsFromOutside();
    t.taken();
    t.takenIsRefused();
  }

  /** Takes three cells from i on for an ant that comes on another object, and looks at what it is told to be. */
  private void isAnt(String of, AntsTurn x, int sheet, int sort, int i, int... told) {
    e.is(of + ": ants(" + sheet + ", " + sort + ", " + i + ", 1)", x.ants(sheet, sort, i, 1), 1);
    int ant = x.count(0) - 1;
    int[] order = {4, 0, 1, 3, 2};
    for (int k = 0; k < told.length; k++) {
      e.is(of + ": told(" + ant + ", " + order[k] + ")", x.told(ant, order[k]), told[k]);
    }
  }

  /** Whether a cell is 0: whether it tells the beat in which two on one knot meet. */
  private static boolean isNought(AntsTurn x, int sheet, int sort, int i) {
    int other = sheet == 0 ? 1 : 0;
    Texts.row(x, other, sort, 9);
    return x.copy(sheet, i, other, 0, 1) == 1 && x.fits(other, 1, 0) == 2;
  }

  private void sheetBecomes() {
    e.says(26, "SHEETS 0 .. 3 are rows of numbers, or missing (as all are at first): of sort 0 bytes, 1 shorts, 2 ints.");
    AntsTurn first = new AntsTurn();
    for (int s = 0; s < 4; s++) {
      e.is("at first: cell(" + s + ", 0, 0)", first.cell(s, 0, 0), NOTHING);
    }
    e.says(26, "A SHEET becomes a row of n of a sort, all 0, or missing (sort -1: n does not matter): 1.");
    for (int sort = 0; sort < 3; sort++) {
      AntsTurn x = new AntsTurn();
      e.is("sheet(3, " + sort + ", 0)", x.sheet(3, sort, 0), 1);
      e.is("of none: cell(3, 0, 0)", x.cell(3, 0, 0), OUTSIDE);
      e.is("sheet(3, " + sort + ", 40)", x.sheet(3, sort, 40), 1);
      e.is("of forty: cell(3, 39, 0)", x.cell(3, 39, 0), 1);
      e.is("of forty: cell(3, 40, 0)", x.cell(3, 40, 0), OUTSIDE);
      e.is("sheet(3, " + sort + ", 1)", x.sheet(3, sort, 1), 1);
      e.is("of one: cell(3, 1, 0)", x.cell(3, 1, 0), OUTSIDE);
      e.is("of one: cell(3, 0, 0)", x.cell(3, 0, 0), 1);
      for (int other = 0; other < 3; other++) {
        e.is("of its sort: ants(3, " + other + ", 0, 0)", x.ants(3, other, 0, 0), other == sort ? 0 : OTHER_SORT);
      }
    }
    for (int n : new int[] {0, -1, 40, 41, MIN, MAX}) {
      AntsTurn x = new AntsTurn();
      x.sheet(2, 1, 4);
      e.is("sheet(2, -1, " + n + ")", x.sheet(2, -1, n), 1);
      e.is("it is missing: cell(2, 0, 0)", x.cell(2, 0, 0), NOTHING);
      e.is("missing once more: sheet(2, -1, " + n + ")", x.sheet(2, -1, n), 1);
    }
    allNought();
  }

  private void allNought() {
    e.says(26, "all 0,");
    AntsTurn x = with(10, 0, new int[] {0, 500, 0}, new int[] {0, 500, 0});
    x.sheet(3, 2, 40);
    for (int i = 0; i < 40; i++) {
      x.cell(3, i, i + 1);
    }
    e.is("not 0 any more", isNought(x, 3, 2, 39) ? 1 : 0, 0);
    x.sheet(3, 0, 40);
    for (int i = 0; i < 40; i++) {
      e.is("anew: cell " + i + " is 0", isNought(x, 3, 0, i) ? 1 : 0, 1);
    }
  }

  private void sheetIsRefused() {
    e.says(26, "BAD: no such SHEET, sort; n above 40; -14.");
    for (int sheet : NO_SHEET) {
      e.stays(Scene.SHEETS, "sheet(" + sheet + ", 0, 1)", x -> x.sheet(sheet, 0, 1), BAD);
      e.stays(Scene.SHEETS, "sheet(" + sheet + ", -1, 1)", x -> x.sheet(sheet, -1, 1), BAD);
      e.stays(Scene.SHEETS, "sheet(" + sheet + ", 0, -1)", x -> x.sheet(sheet, 0, -1), BAD);
    }
    for (int sort : new int[] {-2, 3, MIN, MAX}) {
      e.stays(Scene.SHEETS, "sheet(0, " + sort + ", 1)", x -> x.sheet(0, sort, 1), BAD);
      e.stays(Scene.SHEETS, "sheet(0, " + sort + ", -1)", x -> x.sheet(0, sort, -1), BAD);
    }
    for (int sort = 0; sort < 3; sort++) {
      int s = sort;
      e.stays(Scene.SHEETS, "sheet(0, " + sort + ", 41)", x -> x.sheet(0, s, 41), BAD);
      e.stays(Scene.SHEETS, "sheet(1, " + sort + ", MAX)", x -> x.sheet(1, s, MAX), BAD);
      e.stays(Scene.SHEETS, "sheet(2, " + sort + ", -1)", x -> x.sheet(2, s, -1), BELOW_NOTHING);
      e.stays(Scene.SHEETS, "sheet(3, " + sort + ", MIN)", x -> x.sheet(3, s, MIN), BELOW_NOTHING);
      e.stays(Scene.NEW, "sheet(0, " + sort + ", -1)", x -> x.sheet(0, s, -1), BELOW_NOTHING);
      e.stays(Scene.NEW, "sheet(0, " + sort + ", 41)", x -> x.sheet(0, s, 41), BAD);
    }
  }

  private void cellBecomes() {
    e.says(27, "Item i of a SHEET becomes v (of bytes, shorts its lowest 8, 16 bits): 1.");
    for (int sort = 0; sort < 3; sort++) {
      AntsTurn x = new AntsTurn();
      x.sheet(3, sort, 40);
      e.is("cell(3, 37, 5)", x.cell(3, 37, 5), 1);
      e.is("cell(3, 38, 118)", x.cell(3, 38, 118), 1);
      e.is("cell(3, 39, 20)", x.cell(3, 39, 20), 1);
      e.is("cell(3, 36, 6)", x.cell(3, 36, 6), 1);
      isAnt("the last three of sort " + sort, x, 3, sort, 37, 5, 1, 1, 8, 20);
      e.is("cell(3, 38, 100)", x.cell(3, 38, 100), 1);
      isAnt("once more", x, 3, sort, 37, 5, 1, 0, 0, 20);
    }
  }

  private void cellOfSorts() {
    e.says(27, "(of bytes, shorts its lowest 8, 16 bits)");
    int[][] bytes = {{256 + 5, 256 * 7 + 119, 20 - 256}, {5 - 512, MIN + 119, (MAX - 255) + 20}, {65536 + 5, 119, 20}};
    for (int[] b : bytes) {
      AntsTurn x = new AntsTurn();
      Texts.row(x, 0, 0, b);
      isAnt("bytes " + java.util.Arrays.toString(b), x, 0, 0, 0, 5, 1, 1, 9, 20);
    }
    int[][] shorts = {{65536 + 4, 65536 * 3 + 919, 20 - 65536}, {MIN + 4, (MAX - 65535) + 919, 65536 * 255 + 20}};
    for (int[] s : shorts) {
      AntsTurn x = new AntsTurn();
      Texts.row(x, 0, 1, s);
      isAnt("shorts " + java.util.Arrays.toString(s), x, 0, 1, 0, 4, 9, 1, 9, 20);
    }
    int[][] others = {
      {1, 256 + 5, 100, 0}, {2, 65536 + 5, 100, 0}, {2, 5, 65536 + 100, 0}, {2, 5, 100, 256}, {0, 5, 200, 0}, {0, -1, 100, 0}
    };
    for (int[] o : others) {
      AntsTurn x = new AntsTurn();
      Texts.row(x, 0, o[0], o[1], o[2], o[3]);
      e.is("sort " + o[0] + ", " + o[1] + ", " + o[2] + ", " + o[3] + " is no ant", x.ants(0, o[0], 0, 1), 0);
    }
    AntsTurn ring = new AntsTurn();
    ring.plank(1, 1);
    ring.ant(0, 500, 0);
    int[][] nones = {{0, -1, 2}, {0, 255, 2}, {0, MAX, 2}, {1, 65535, 2}, {1, 255, 0}, {1, MAX, 2}, {2, -1, 2}, {2, 65535, 0}, {2, MAX, 0}};
    for (int[] n : nones) {
      Texts.row(ring, 0, n[0], n[1]);
      e.is("sort " + n[0] + ", " + n[1] + " is NONE by so many ways", ring.fits(0, 0, 0), n[2]);
    }
  }

  private void cellIsRefused() {
    e.says(27, "BAD: no such SHEET; -11; -12.");
    for (int sheet : NO_SHEET) {
      e.stays(Scene.SHEETS, "cell(" + sheet + ", 0, 0)", x -> x.cell(sheet, 0, 0), BAD);
      e.stays(Scene.NEW, "cell(" + sheet + ", -1, 0)", x -> x.cell(sheet, -1, 0), BAD);
    }
    for (int i : new int[] {0, -1, 40, MIN, MAX}) {
      e.stays(Scene.SOME, "cell(3, " + i + ", 7)", x -> x.cell(3, i, 7), NOTHING);
    }
    for (int i : new int[] {-1, 6, 39, 40, MIN, MAX}) {
      e.stays(Scene.SHEETS, "cell(0, " + i + ", 7)", x -> x.cell(0, i, 7), OUTSIDE);
    }
    e.stays(Scene.SHEETS, "cell(1, 3, 7)", x -> x.cell(1, 3, 7), OUTSIDE);
    e.stays(Scene.SHEETS, "cell(3, 0, 7)", x -> x.cell(3, 0, 7), OUTSIDE);
    e.stays(Scene.FULL, "cell(3, 40, 7)", x -> x.cell(3, 40, 7), OUTSIDE);
    e.says(27, "the host's: -11 nothing where something is asked, -12 a place outside, "
        + "-13 a thing of another sort or KIND, -14 a size below 0.");
    AntsTurn x = new AntsTurn();
    e.is("cell(0, 0, 0)", x.cell(0, 0, 0), -11);
    e.is("sheet(0, 0, -1)", x.sheet(0, 0, -1), -14);
    x.sheet(0, 0, 1);
    e.is("cell(0, 1, 0)", x.cell(0, 1, 0), -12);
    e.is("ants(0, 1, 0, 1)", x.ants(0, 1, 0, 1), -13);
    x.ant(0, 100, 0);
    e.is("taken(0, 1)", x.taken(0, 1), -13);
  }

  private void copyComes() {
    e.says(28, "n numbers of a SHEET, from item i on, come to another one's item j on (as they were): n.");
    AntsTurn x = Scene.SHEETS.make();
    e.is("copy(0, 3, 1, 0, 3)", x.copy(0, 3, 1, 0, 3), 3);
    isAnt("what came", x, 1, 2, 0, 5, 1, 1, 1, 20);
    isAnt("it is still there", x, 0, 2, 3, 5, 1, 1, 1, 20);
    isAnt("the rest is as it was", x, 0, 2, 0, 1, 1, 0, 3, 4);
    e.is("copy(1, 0, 0, 1, 1)", x.copy(1, 0, 0, 1, 1), 1);
    e.is("5 is no knot: ants(0, 2, 0, 1)", x.ants(0, 2, 0, 1), 0);
    e.is("all: copy(0, 0, 0, 0, 6)", x.copy(0, 0, 0, 0, 6), 6);
    e.is("none: copy(0, 0, 1, 0, 0)", x.copy(0, 0, 1, 0, 0), 0);
    e.is("none, behind the last: copy(0, 6, 1, 3, 0)", x.copy(0, 6, 1, 3, 0), 0);
    e.is("none of an empty one: copy(3, 0, 3, 0, 0)", x.copy(3, 0, 3, 0, 0), 0);
    AntsTurn full = Scene.FULL.make();
    e.is("forty: copy(0, 0, 3, 0, 40)", full.copy(0, 0, 3, 0, 40), 40);
    e.is("the last: copy(3, 39, 0, 39, 1)", full.copy(3, 39, 0, 39, 1), 1);
    e.is("none behind forty: copy(3, 40, 0, 40, 0)", full.copy(3, 40, 0, 40, 0), 0);
  }

  private void copyAsTheyWere() {
    e.says(28, "(as they were)");
    for (int sort = 0; sort < 3; sort++) {
      AntsTurn later = new AntsTurn();
      Texts.row(later, 0, sort, 1, 102, 3, 5);
      e.is("to later items of its own: copy(0, 0, 0, 1, 3)", later.copy(0, 0, 0, 1, 3), 3);
      isAnt("they came as they were", later, 0, sort, 1, 1, 1, 0, 2, 3);
      e.is("the first item stays: cell", later.cell(0, 1, 114), 1);
      e.is("the first item stays: cell", later.cell(0, 2, 6), 1);
      isAnt("the first item stays", later, 0, sort, 0, 1, 1, 1, 4, 6);
      AntsTurn earlier = new AntsTurn();
      Texts.row(earlier, 0, sort, 9, 4, 113, 2);
      e.is("to earlier items of its own: copy(0, 1, 0, 0, 3)", earlier.copy(0, 1, 0, 0, 3), 3);
      isAnt("they came as they were", earlier, 0, sort, 0, 4, 1, 1, 3, 2);
    }
    AntsTurn wide = new AntsTurn();
    Texts.row(wide, 0, 2, 65536 + 5, 100, 0);
    wide.sheet(1, 2, 3);
    wide.copy(0, 0, 1, 0, 3);
    e.is("ints come whole: ants(1, 2, 0, 1)", wide.ants(1, 2, 0, 1), 0);
    wide.cell(1, 0, 5);
    e.is("what comes is another one's then: ants(0, 2, 0, 1)", wide.ants(0, 2, 0, 1), 0);
    isAnt("its own", wide, 1, 2, 0, 5, 1, 0, 0, 0);
  }

  private void copyIsRefused() {
    e.says(28, "BAD: no such SHEET; -11; -13: they are of unlike sorts; -12 (also with n below 0).");
    for (int sheet : NO_SHEET) {
      e.stays(Scene.SOME, "copy(" + sheet + ", 0, 0, 0, 1)", x -> x.copy(sheet, 0, 0, 0, 1), BAD);
      e.stays(Scene.SOME, "copy(0, 0, " + sheet + ", 0, 1)", x -> x.copy(0, 0, sheet, 0, 1), BAD);
      e.stays(Scene.SOME, "copy(3, 0, " + sheet + ", 0, -1)", x -> x.copy(3, 0, sheet, 0, -1), BAD);
    }
    int[][] nothing = {{3, 0, 0, 0, 1}, {0, 0, 3, 0, 1}, {3, 0, 3, 0, 0}, {3, -1, 1, 0, 1}, {2, 0, 3, 0, -1}};
    for (int[] c : nothing) {
      refused(Scene.SOME, c, NOTHING);
    }
    int[][] unlike = {{0, 0, 2, 0, 1}, {2, 0, 1, 0, 0}, {2, 0, 3, 0, 1}, {0, -1, 2, 0, 1}, {0, 0, 2, 9, 1}, {3, 0, 2, 0, -1}};
    for (int[] c : unlike) {
      refused(Scene.SHEETS, c, OTHER_SORT);
    }
    int[][] outside = {
      {0, 0, 1, 0, -1}, {0, 0, 1, 0, MIN}, {0, 0, 1, 0, 4}, {0, 0, 1, 1, 3}, {0, 4, 1, 0, 3}, {0, -1, 1, 0, 1},
      {0, 0, 1, -1, 1}, {0, 7, 1, 0, 0}, {0, 0, 1, 4, 0}, {0, -1, 1, 0, 0}, {0, 0, 1, -1, 0}, {0, 1, 0, 0, 6},
      {0, 0, 0, 1, 6}, {0, 0, 0, 0, 7}, {0, 0, 0, 0, 40}, {0, 0, 0, 0, 41}, {0, 6, 1, 0, 1}, {0, 0, 1, 3, 1}, {1, 0, 0, 0, 4},
      {0, MAX, 1, 0, 1}, {0, 0, 1, MAX, 1}, {0, 1, 1, 1, MAX}, {0, MAX, 1, MAX, MAX}, {0, MIN, 1, 0, 1}, {0, 0, 1, MIN, 1},
      {0, MIN, 1, MIN, MIN}, {0, 7, 1, 0, -1}, {3, 0, 3, 0, 1}, {3, 0, 3, 0, -1}
    };
    for (int[] c : outside) {
      refused(Scene.SHEETS, c, OUTSIDE);
    }
    refused(Scene.FULL, new int[] {0, 0, 3, 0, 41}, OUTSIDE);
    refused(Scene.FULL, new int[] {0, 1, 3, 0, 40}, OUTSIDE);
  }

  private void refused(Scene scene, int[] c, int want) {
    String call = "copy(" + c[0] + ", " + c[1] + ", " + c[2] + ", " + c[3] + ", " + c[4] + ")";
    e.stays(scene, call, x -> x.copy(c[0], c[1], c[2], c[3], c[4]), want);
  }

  private void antsCome() {
    e.says(29, "Ants by a SHEET that is taken for one of a sort: from one on, three by three (as of ant()), n of them (0 .. 7): "
        + "how many came (others are left out).");
    for (int sort = 0; sort < 3; sort++) {
      AntsTurn x = new AntsTurn();
      Texts.row(x, 0, sort, 9, 1, 103, 4, 5, 111, 20, 9);
      e.is("ants(0, " + sort + ", 1, 0)", x.ants(0, sort, 1, 0), 0);
      e.is("none came", x.count(0), 0);
      e.is("ants(0, " + sort + ", 1, 2)", x.ants(0, sort, 1, 2), 2);
      int[][] told = {{1, 0, 4, 3, 1}, {1, 1, 20, 1, 5}};
      for (int ant = 0; ant < 2; ant++) {
        for (int what = 0; what < 5; what++) {
          e.is("told(" + ant + ", " + what + ")", x.told(ant, what), told[ant][what]);
        }
      }
      e.is("the last three: ants(0, " + sort + ", 4, 1)", x.ants(0, sort, 4, 1), 1);
    }
    AntsTurn seven = new AntsTurn();
    seven.sheet(3, 1, 21);
    for (int i = 0; i < 7; i++) {
      seven.cell(3, 3 * i + 1, 100 * (i + 1));
    }
    e.is("all seven: ants(3, 1, 0, 7)", seven.ants(3, 1, 0, 7), 7);
    e.is("in their order: told(6, 0)", seven.told(6, 0), 7);
    e.is("what they are is gone by: last(1)", seven.last(1), 18);
  }

  private void antsLeftOut() {
    e.says(29, "how many came (others are left out)");
    AntsTurn x = new AntsTurn();
    Texts.row(x, 0, 2, 6, 100, 0, 0, 0, 0, 0, 100, 21, 0, 1000, 0, 0, 120, 0, 3, 919, 20, -1, 100, 0);
    e.is("one of seven: ants(0, 2, 0, 7)", x.ants(0, 2, 0, 7), 1);
    e.is("it is the sixth: told(0, 4)", x.told(0, 4), 3);
    e.is("count(0)", x.count(0), 1);
    AntsTurn full = new AntsTurn();
    full.sheet(0, 2, 21);
    for (int i = 0; i < 7; i++) {
      full.cell(0, 3 * i + 1, 100 + i);
    }
    for (int i = 0; i < 5; i++) {
      full.ant(0, 500, 0);
    }
    e.is("room for two: ants(0, 2, 0, 7)", full.ants(0, 2, 0, 7), 2);
    e.is("the first two: told(6, 3)", full.told(6, 3), 1);
    e.is("room for none: ants(0, 2, 0, 7)", full.ants(0, 2, 0, 7), 0);
    e.is("count(0)", full.count(0), 7);
  }

  private void antsAreRefused() {
    e.says(29, "BAD: no such SHEET, sort, n; -13; -11; -12: what stood ahead came.");
    for (int sheet : NO_SHEET) {
      e.stays(Scene.SHEETS, "ants(" + sheet + ", 2, 0, 1)", x -> x.ants(sheet, 2, 0, 1), BAD);
    }
    for (int sort : new int[] {-2, -1, 3, MIN, MAX}) {
      e.stays(Scene.SHEETS, "ants(0, " + sort + ", 0, 1)", x -> x.ants(0, sort, 0, 1), BAD);
      e.stays(Scene.SOME, "ants(3, " + sort + ", 0, 1)", x -> x.ants(3, sort, 0, 1), BAD);
    }
    for (int n : new int[] {-1, 8, MIN, MAX}) {
      e.stays(Scene.SHEETS, "ants(0, 2, 0, " + n + ")", x -> x.ants(0, 2, 0, n), BAD);
      e.stays(Scene.SHEETS, "ants(0, 1, 0, " + n + ")", x -> x.ants(0, 1, 0, n), BAD);
      e.stays(Scene.SOME, "ants(3, 0, 0, " + n + ")", x -> x.ants(3, 0, 0, n), BAD);
    }
    for (int n : new int[] {0, 1, 7}) {
      e.stays(Scene.SHEETS, "ants(0, 1, 0, " + n + ")", x -> x.ants(0, 1, 0, n), OTHER_SORT);
      e.stays(Scene.SHEETS, "ants(0, 0, 99, " + n + ")", x -> x.ants(0, 0, 99, n), OTHER_SORT);
      e.stays(Scene.SHEETS, "ants(2, 2, -1, " + n + ")", x -> x.ants(2, 2, -1, n), OTHER_SORT);
      e.stays(Scene.SHEETS, "ants(3, 1, 0, " + n + ")", x -> x.ants(3, 1, 0, n), OTHER_SORT);
      for (int sort = 0; sort < 3; sort++) {
        int s = sort;
        e.stays(Scene.SOME, "ants(3, " + sort + ", 0, " + n + ")", x -> x.ants(3, s, 0, n), NOTHING);
        e.stays(Scene.NEW, "ants(0, " + sort + ", -1, " + n + ")", x -> x.ants(0, s, -1, n), NOTHING);
      }
    }
  }

  private void antsFromOutside() {
    e.says(29, "-12: what stood ahead came.");
    for (int from : new int[] {-1, -3, 4, 5, 6, 7, 40, MIN, MAX, MAX - 1, MAX - 2}) {
      for (int n : new int[] {1, 7}) {
        e.stays(Scene.SHEETS, "ants(0, 2, " + from + ", " + n + ")", x -> x.ants(0, 2, from, n), OUTSIDE);
      }
    }
    e.stays(Scene.SHEETS, "ants(3, 0, 0, 1)", x -> x.ants(3, 0, 0, 1), OUTSIDE);
    AntsTurn x = Scene.SHEETS.make();
    e.is("two of three: ants(0, 2, 0, 3)", x.ants(0, 2, 0, 3), OUTSIDE);
    e.is("count(0)", x.count(0), 2);
    e.is("told(0, 3)", x.told(0, 3), 3);
    e.is("told(1, 4)", x.told(1, 4), 5);
    e.is("one of two, the other one in part: ants(0, 2, 1, 2)", x.ants(0, 2, 1, 2), OUTSIDE);
    e.is("what stood ahead was no ant: count(0)", x.count(0), 2);
    e.is("one of seven: ants(0, 2, 3, 7)", x.ants(0, 2, 3, 7), OUTSIDE);
    e.is("count(0)", x.count(0), 3);
    e.is("it is as of ant(): told(2, 2)", x.told(2, 2), 20);
    AntsTurn full = Scene.FULL.make();
    e.is("also when they are full: ants(0, 0, 38, 1)", full.ants(0, 0, 38, 1), OUTSIDE);
    e.is("also when they are full: ants(0, 0, 37, 1)", full.ants(0, 0, 37, 1), 0);
  }

  private void taken() {
    e.says(30, "An ant taken for one of KIND k (0 .. 5), or one under that one (also by others between): its NUMBER.");
    String[] under = {"100000", "110000", "101000", "110100", "101010", "101001"};
    AntsTurn x = new AntsTurn();
    for (int kind = 0; kind < 6; kind++) {
      x.ant(kind, 100 + kind + 4, 0);
      for (int k = 0; k < 6; k++) {
        boolean is = under[kind].charAt(k) == '1';
        e.is("KIND " + kind + ": taken(" + kind + ", " + k + ")", x.taken(kind, k), is ? kind + 4 : OTHER_SORT);
      }
    }
    x.set(5, 3, 0);
    e.is("NUMBER 0: taken(5, 2)", x.taken(5, 2), 0);
    e.is("NUMBER 0: taken(5, 0)", x.taken(5, 0), 0);
  }

  private void takenIsRefused() {
    e.says(30, "BAD: k; -11: no such ant; -13.");
    for (int k : new int[] {-1, 6, MIN, MAX}) {
      e.stays(Scene.SOME, "taken(0, " + k + ")", x -> x.taken(0, k), BAD);
      e.stays(Scene.SOME, "taken(3, " + k + ")", x -> x.taken(3, k), BAD);
      e.stays(Scene.NEW, "taken(0, " + k + ")", x -> x.taken(0, k), BAD);
    }
    for (int ant : new int[] {-1, 3, 7, MIN, MAX}) {
      e.stays(Scene.SOME, "taken(" + ant + ", 0)", x -> x.taken(ant, 0), NOTHING);
      e.stays(Scene.SOME, "taken(" + ant + ", 5)", x -> x.taken(ant, 5), NOTHING);
    }
    e.stays(Scene.NEW, "taken(0, 0)", x -> x.taken(0, 0), NOTHING);
    e.stays(Scene.FULL, "taken(7, 0)", x -> x.taken(7, 0), NOTHING);
    e.stays(Scene.FULL, "taken(6, 0)", x -> x.taken(6, 0), 6);
    e.stays(Scene.FULL, "taken(6, 1)", x -> x.taken(6, 1), OTHER_SORT);
    e.says(30, "Refusals, the first that the call's words name; they change nothing:");
    e.stays(Scene.FULL, "plank(0, 41)", x -> x.plank(0, 41), BAD);
    e.stays(Scene.FULL, "ant(-1, 100, 0)", x -> x.ant(-1, 100, 0), BAD);
    e.stays(Scene.SOME, "fits(3, 0, 2)", x -> x.fits(3, 0, 2), BAD);
    e.stays(Scene.SOME, "copy(3, 0, 4, 0, -1)", x -> x.copy(3, 0, 4, 0, -1), BAD);
    e.stays(Scene.SOME, "taken(9, 9)", x -> x.taken(9, 9), BAD);
  }
}
