/** Promises 15 to 25: all the ways to face, what is carried, a ring, drawn ants, the image and counts. */
final class EdgesOfWays extends EdgesOf {
  private static final int[] NO_EITHER = {-1, 2, MIN, MAX};
  private static final int[] NO_ANT = {-1, 3, 7, MIN, MAX};

  private EdgesOfWays(Edges e) {
    super(e);
  }

  static void look(Edges e) {
    EdgesOfWays t = new EdgesOfWays(e);
    t.soonest();
    t.soonestOfLikeOnes();
    t.beLast();
    t.longest();
    t.fitsIsRefused();
    t.fits();
    t.fitsNone();
    t.heard();
    t.heardAtBounds();
    t.byThen();
    t.byThenAtBounds();
    t.carried();
    t.carriedTill();
    t.round();
    t.drawn();
    t.image();
    t.imageKeeps();
    t.back();
    t.count();
  }

  /** Ant 0 is off in 2, or to the left in 18; ant 1 in 10. */
  private static AntsTurn stubborn() {
    return with(10, 0, new int[] {1, 900, 0}, new int[] {1, 500, 0});
  }

  /** Seven that go on as they face, put on one behind the other, and off in 10, 12 .. 22 by all ways. */
  private static AntsTurn seven() {
    AntsTurn x = new AntsTurn();
    for (int i = 0; i < 7; i++) {
      x.ant(1, 500, i);
    }
    return x;
  }

  private static AntsTurn ruled(AntsTurn x, String stay) {
    return Texts.rule(x, "turn 1;stay " + stay + ";heat 0;");
  }

  private void isSoonest(String of, AntsTurn x, int way, int beat) {
    e.is(of + ": soonest(0)", x.soonest(0), way);
    e.is(of + ": soonest(1)", x.soonest(1), beat);
  }

  private void soonest() {
    e.says(15, "SOONEST: bits (what 0), the BEAT (1).");
    isSoonest("two", pair(), 3, 8);
    e.says(15, "BAD; NONE.");
    for (int what : NO_EITHER) {
      e.stays(Scene.SOME, "soonest(" + what + ")", x -> x.soonest(what), BAD);
      e.stays(Scene.NEW, "soonest(" + what + ")", x -> x.soonest(what), BAD);
    }
    e.stays(Scene.NEW, "soonest(0)", x -> x.soonest(0), NONE);
    e.stays(Scene.NEW, "soonest(1)", x -> x.soonest(1), NONE);
    e.says(15, "WAYS are all in which ants could face at first (bits: LEFT).");
    for (int way = 0; way < 4; way++) {
      AntsTurn x = pair();
      x.set(0, 1, way % 2);
      x.set(1, 1, way / 2);
      isSoonest("told to face as way " + way, x, 3, 8);
      e.is("told(0, 1) stays", x.told(0, 1), way % 2);
      e.is("told(1, 1) stays", x.told(1, 1), way / 2);
    }
    AntsTurn some = new AntsTurn();
    for (int i = 0; i < 7; i++) {
      some.ant(1, i % 2 == 0 ? 100 : 900, 0);
    }
    isSoonest("four to the left", some, 1 + 4 + 16 + 64, 2);
    AntsTurn right = new AntsTurn();
    for (int i = 0; i < 7; i++) {
      right.ant(0, i < 6 ? 100 : 900, 0);
    }
    isSoonest("six to the left", right, 63, 2);
    right.set(6, 0, 1);
    isSoonest("seven to the left", right, 127, 2);
  }

  private void soonestOfLikeOnes() {
    e.says(15, "SOONEST: the WAY by which all are OFF, and the LAST one soonest; of like ones the least; NONE (also without ants).");
    isSoonest("both ways in 10", with(10, 0, new int[] {0, 510, 0}), 0, 10);
    isSoonest("seven, all ways in 22", seven(), 0, 22);
    isSoonest("the first of ways 0 and 2", stubborn(), 0, 10);
    isSoonest("one way only", ruled(with(10, 0, new int[] {0, 900, 0}), "not left"), 1, 18);
    isSoonest("not by all ways", late(3), 1, 200);
    isSoonest("not by 200", late(4), NONE, NONE);
    isSoonest("one of them never", ruled(pair(), "number"), NONE, NONE);
    isSoonest("on a ring", with(10, 1, new int[] {0, 500, 0}), NONE, NONE);
    isSoonest("without ants on a ring", with(10, 1), NONE, NONE);
  }

  private void isBeLast(String of, AntsTurn x, int ant, int ways, int least) {
    e.is(of + ": beLast(" + ant + ", 0)", x.beLast(ant, 0), ways);
    e.is(of + ": beLast(" + ant + ", 1)", x.beLast(ant, 1), least);
  }

  private void beLast() {
    e.says(16, "BE LAST: how many ways (what 0), the least (1).");
    isBeLast("two", pair(), 0, 1, 0);
    isBeLast("two", pair(), 1, 3, 1);
    e.says(16, "BAD; NONE.");
    for (int ant : NO_ANT) {
      e.stays(Scene.SOME, "beLast(" + ant + ", 0)", x -> x.beLast(ant, 0), BAD);
    }
    for (int what : NO_EITHER) {
      e.stays(Scene.SOME, "beLast(0, " + what + ")", x -> x.beLast(0, what), BAD);
    }
    e.stays(Scene.NEW, "beLast(0, 0)", x -> x.beLast(0, 0), BAD);
    e.says(16, "BE LAST: how many WAYS there are by which an ant is LAST; the least of them (NONE).");
    isBeLast("alone", with(2, 0, new int[] {0, 100, 0}), 0, 2, 0);
    isBeLast("to the left", stubborn(), 0, 2, 1);
    isBeLast("the other one to the right", stubborn(), 1, 2, 0);
    isBeLast("seven, the last one by all ways", seven(), 6, 128, 0);
    isBeLast("seven, never the first one", seven(), 0, 0, NONE);
    AntsTurn like = with(10, 0, new int[] {1, 500, 0}, new int[] {1, 500, 0});
    isBeLast("of like ones the first", like, 0, 4, 0);
    isBeLast("of like ones the first", like, 1, 0, NONE);
    isBeLast("not all are off", ruled(pair(), "number"), 0, 0, NONE);
    isBeLast("not all are off", ruled(pair(), "number"), 1, 0, NONE);
    isBeLast("in 200", late(3), 0, 1, 1);
    isBeLast("not by 200", late(4), 0, 0, NONE);
    isBeLast("on a ring", with(10, 1, new int[] {0, 500, 0}), 0, 0, NONE);
  }

  private void isLongest(String of, AntsTurn x, int ant, int way, int beat) {
    e.is(of + ": longest(" + ant + ", 0)", x.longest(ant, 0), way);
    e.is(of + ": longest(" + ant + ", 1)", x.longest(ant, 1), beat);
  }

  private void longest() {
    e.says(17, "LONGEST: bits (what 0), the BEAT (1).");
    isLongest("two", pair(), 0, 0, 16);
    isLongest("two", pair(), 1, 2, 16);
    e.says(17, "BAD; NONE.");
    for (int ant : NO_ANT) {
      e.stays(Scene.SOME, "longest(" + ant + ", 0)", x -> x.longest(ant, 0), BAD);
    }
    for (int what : NO_EITHER) {
      e.stays(Scene.SOME, "longest(0, " + what + ")", x -> x.longest(0, what), BAD);
    }
    e.stays(Scene.NEW, "longest(0, 0)", x -> x.longest(0, 0), BAD);
    e.says(17, "LONGEST: of WAYS by which an ant is OFF that by which it is latest; of like ones the least; NONE.");
    isLongest("of ways 1 and 3 the first", stubborn(), 0, 1, 18);
    isLongest("of all four the first", stubborn(), 1, 0, 10);
    isLongest("of 128 the first", seven(), 6, 0, 22);
    AntsTurn all = seven();
    all.set(6, 0, 9);
    isLongest("of 64 the first", all, 6, 64, 30);
    // Both right at first, ant 1 comes back from the end 1 and meets ant 0 on place 18 in beat 14.
    isLongest("the other one is never off", ruled(pair(), "number"), 0, 0, 32);
    isLongest("never", ruled(pair(), "number"), 1, NONE, NONE);
    isLongest("in 200", late(3), 0, 1, 200);
    isLongest("not by 200", late(4), 0, NONE, NONE);
    isLongest("on a ring", with(10, 1, new int[] {0, 500, 0}), 0, NONE, NONE);
  }

  private void fitsIsRefused() {
    e.says(18, "BAD: SHEET, sight, what; -11; BAD: FITS, and its size isn't how many ants there are; NONE.");
    for (int sheet : new int[] {-1, 4, MIN, MAX}) {
      e.stays(Scene.SOME, "fits(" + sheet + ", 0, 0)", x -> x.fits(sheet, 0, 0), BAD);
    }
    // Sheet 3 is missing, and sheet 2 has as many as there are ants.
    for (int wrong : NO_EITHER) {
      e.stays(Scene.SOME, "fits(2, " + wrong + ", 0)", x -> x.fits(2, wrong, 0), BAD);
      e.stays(Scene.SOME, "fits(2, 0, " + wrong + ")", x -> x.fits(2, 0, wrong), BAD);
      e.stays(Scene.SOME, "fits(3, " + wrong + ", 0)", x -> x.fits(3, wrong, 0), BAD);
      e.stays(Scene.SOME, "fits(3, 1, " + wrong + ")", x -> x.fits(3, 1, wrong), BAD);
    }
    for (int k = 0; k < 4; k++) {
      int sight = k / 2;
      int what = k % 2;
      e.stays(Scene.SOME, "fits(3, " + sight + ", " + what + ")", x -> x.fits(3, sight, what), NOTHING);
      e.stays(Scene.NEW, "fits(0, " + sight + ", " + what + ")", x -> x.fits(0, sight, what), NOTHING);
    }
    e.stays(Scene.SOME, "fits(0, 0, 0)", x -> x.fits(0, 0, 0), BAD);
    e.stays(Scene.SOME, "fits(1, 0, 1)", x -> x.fits(1, 0, 1), BAD);
    e.stays(Scene.SOME, "fits(2, 0, 0)", x -> x.fits(2, 0, 0), 0);
    e.stays(Scene.SOME, "fits(2, 0, 1)", x -> x.fits(2, 0, 1), NONE);
    e.stays(Scene.SOME, "fits(0, 1, 0)", x -> x.fits(0, 1, 0), 0);
    AntsTurn x = pair();
    x.sheet(0, 2, 1);
    e.is("one too few", x.fits(0, 0, 0), BAD);
    x.sheet(0, 2, 3);
    e.is("one too many", x.fits(0, 0, 0), BAD);
    x.sheet(0, 2, 0);
    e.is("empty", x.fits(0, 0, 1), BAD);
    AntsTurn none = new AntsTurn();
    none.sheet(0, 0, 1);
    e.is("without ants, one too many", none.fits(0, 0, 0), BAD);
  }

  private void isFit(String of, AntsTurn x, int sight, int ways, int least) {
    e.is(of + ": fits(0, " + sight + ", 0)", x.fits(0, sight, 0), ways);
    e.is(of + ": fits(0, " + sight + ", 1)", x.fits(0, sight, 1), least);
  }

  private void isFit(AntsTurn x, int sort, int sight, int ways, int least, int... cells) {
    Texts.row(x, 0, sort, cells);
    isFit("sort " + sort + ", " + java.util.Arrays.toString(cells), x, sight, ways, least);
  }

  private void fits() {
    e.says(18, "FITS (sight 0), HEARD (1): how many ways (what 0), the least (1).");
    isFit(pair(), 2, 0, 1, 2, 8, 16);
    isFit(pair(), 2, 1, 1, 2, 2);
    e.says(18, "FITS: a SHEET tells in which BEAT each ant is OFF (NONE): how many WAYS there are by which it is so; the least (NONE).");
    for (int sort = 0; sort < 3; sort++) {
      isFit(stubborn(), sort, 0, 2, 0, 2, 10);
      isFit(stubborn(), sort, 0, 2, 1, 18, 10);
      isFit(stubborn(), sort, 0, 0, NONE, 2, 11);
      isFit(stubborn(), sort, 0, 0, NONE, 3, 10);
      isFit(stubborn(), sort, 0, 0, NONE, 10, 2);
      isFit(stubborn(), sort, 0, 0, NONE, 0, 0);
      isFit(stubborn(), sort, 0, 0, NONE, 2, -1);
      isFit(seven(), sort, 0, 128, 0, 10, 12, 14, 16, 18, 20, 22);
      isFit(seven(), sort, 0, 0, NONE, 10, 12, 14, 16, 18, 20, 23);
      isFit(new AntsTurn(), sort, 0, 1, 0);
    }
  }

  private void fitsNone() {
    e.says(18, "FITS: a SHEET tells in which BEAT each ant is OFF (NONE)");
    for (int sort = 0; sort < 3; sort++) {
      isFit(ruled(stubborn(), "number"), sort, 0, 2, 0, 2, -1);
      isFit(ruled(stubborn(), "number"), sort, 0, 2, 1, 18, -1);
      isFit(ruled(stubborn(), "number"), sort, 0, 0, NONE, 2, 10);
      isFit(ruled(stubborn(), "number"), sort, 0, 0, NONE, 2, -2);
      isFit(with(10, 1, new int[] {0, 500, 0}), sort, 0, 2, 0, -1);
      isFit(with(10, 1), sort, 0, 1, 0);
      isFit(late(4), sort, 0, 2, 0, -1);
    }
    // Bytes and shorts have a sign, so that 255 and 65535 are NONE in them, and 200 is no number of a byte.
    isFit(late(4), 0, 0, 2, 0, 255);
    isFit(late(4), 1, 0, 0, NONE, 255);
    isFit(late(4), 1, 0, 2, 0, 65535);
    isFit(late(4), 2, 0, 0, NONE, 65535);
    isFit(late(3), 0, 0, 0, NONE, 200);
    isFit(late(3), 1, 0, 1, 1, 200);
    isFit(late(3), 2, 0, 1, 1, 200);
    isFit(late(3), 2, 0, 1, 0, -1);
    // A SHY one to the left is off in 126 from knot 23 of 40, in 128 from knot 24.
    isFit(with(40, 0, new int[] {2, 2301, 0}), 0, 0, 1, 1, 126);
    isFit(with(40, 0, new int[] {2, 2401, 0}), 0, 0, 0, NONE, 128);
    isFit(with(40, 0, new int[] {2, 2401, 0}), 1, 0, 1, 1, 128);
  }

  private void heard() {
    e.says(18, "HEARD: a SHEET tells all BEATS in which any MEET, one behind the other: likewise.");
    isFit(pair(), 0, 1, 3, 0);
    isFit(pair(), 0, 1, 1, 2, 2);
    isFit(pair(), 0, 1, 0, NONE, 3);
    isFit(pair(), 0, 1, 0, NONE, 0);
    isFit(pair(), 0, 1, 0, NONE, 2, 2);
    isFit(pair(), 0, 1, 0, NONE, 2, 0);
    isFit(new AntsTurn(), 1, 1, 1, 0);
    isFit(new AntsTurn(), 1, 1, 0, NONE, 0);
    // Those on knots 2, 4, 6 and 8 meet as many beats on as their knots are apart.
    AntsTurn four = with(10, 0, new int[] {1, 200, 0}, new int[] {1, 400, 0}, new int[] {1, 600, 0}, new int[] {1, 800, 0});
    isFit(four, 2, 1, 1, 10, 2, 6);
    isFit(four, 2, 1, 3, 2, 2);
    isFit(four, 2, 1, 5, 0);
    isFit(four, 2, 1, 0, NONE, 6, 2);
    isFit(four, 2, 1, 0, NONE, 2, 2, 6);
    isFit(four, 2, 1, 0, NONE, 2, 6, 0);
    AntsTurn turned = pair();
    turned.ant(0, 810, 0);
    isFit(turned, 1, 1, 4, 0);
    // Those that met go left from there on, so that the third one meets nobody.
    Texts.rule(turned, "turn not left;stay 0;heat 0;");
    isFit(turned, 1, 1, 2, 2, 2);
    isFit(turned, 1, 1, 0, NONE, 2, 6);
    isFit(turned, 1, 1, 1, 4, 4, 6);
  }

  private static int[] beats(int from, int step, int n) {
    int[] beats = new int[n];
    for (int k = 0; k < n; k++) {
      beats[k] = from + k * step;
    }
    return beats;
  }

  private void heardAtBounds() {
    e.says(18, "a SHEET tells all BEATS in which any MEET");
    AntsTurn ring = with(10, 1, new int[] {0, 500, 0}, new int[] {0, 500, 0});
    isFit(ring, 1, 1, 2, 1, beats(0, 10, 21));
    isFit(ring, 1, 1, 0, NONE, beats(0, 10, 20));
    isFit(ring, 1, 1, 0, NONE, beats(10, 10, 20));
    isFit(ring, 1, 1, 0, NONE, beats(0, 10, 22));
    isFit(ring, 1, 1, 2, 0);
    AntsTurn forty = with(5, 1, new int[] {0, 200, 1}, new int[] {0, 200, 1});
    isFit(forty, 1, 1, 2, 1, beats(2, 5, 40));
    isFit(forty, 1, 1, 0, NONE, beats(2, 5, 39));
    AntsTurn more = with(5, 1, new int[] {0, 200, 0}, new int[] {0, 200, 0});
    isFit(more, 1, 1, 0, NONE, beats(0, 5, 40));
    isFit(more, 1, 1, 0, NONE, beats(5, 5, 40));
    AntsTurn first = with(10, 0, new int[] {0, 500, 0}, new int[] {0, 500, 0});
    isFit(first, 2, 1, 2, 1, 0);
    isFit(first, 2, 1, 2, 0);
  }

  private void isByThen(AntsTurn x, int beat, int above, int below) {
    e.is("byThen(" + beat + ", 0)", x.byThen(beat, 0), above);
    e.is("byThen(" + beat + ", 1)", x.byThen(beat, 1), below);
  }

  private void byThen() {
    e.says(19, "BY THEN: part 0 above, 1 below the line, in lowest terms.");
    AntsTurn x = pair();
    isByThen(x, 7, 0, 1);
    isByThen(x, 8, 1, 4);
    isByThen(x, 11, 1, 4);
    isByThen(x, 12, 1, 2);
    isByThen(x, 15, 1, 2);
    isByThen(x, 16, 1, 1);
    Texts.rule(x, "turn not left;stay 0;heat 0;");
    isByThen(x, 8, 1, 2);
    isByThen(x, 12, 3, 4);
    isByThen(x, 16, 1, 1);
    e.says(19, "NO: BEAT, part.");
    for (int beat : new int[] {-1, 201, MIN, MAX}) {
      e.stays(Scene.SOME, "byThen(" + beat + ", 0)", y -> y.byThen(beat, 0), NO);
      e.stays(Scene.NEW, "byThen(" + beat + ", 1)", y -> y.byThen(beat, 1), NO);
    }
    for (int part : NO_EITHER) {
      e.stays(Scene.SOME, "byThen(0, " + part + ")", y -> y.byThen(0, part), NO);
    }
  }

  private void byThenAtBounds() {
    e.says(19, "BY THEN: of all WAYS those by which all ants are OFF by a BEAT (0 .. 200).");
    isByThen(new AntsTurn(), 0, 1, 1);
    isByThen(new AntsTurn(), 200, 1, 1);
    isByThen(with(10, 1), 0, 1, 1);
    isByThen(pair(), 0, 0, 1);
    isByThen(pair(), 200, 1, 1);
    isByThen(late(3), 199, 0, 1);
    isByThen(late(3), 200, 1, 2);
    isByThen(late(4), 200, 0, 1);
    isByThen(ruled(pair(), "number"), 200, 0, 1);
    isByThen(with(10, 1, new int[] {0, 500, 0}), 200, 0, 1);
    AntsTurn seven = new AntsTurn();
    for (int i = 0; i < 7; i++) {
      seven.ant(1, 100, 0);
    }
    isByThen(seven, 1, 0, 1);
    isByThen(seven, 2, 1, 128);
    isByThen(seven, 17, 1, 128);
    isByThen(seven, 18, 1, 1);
    seven.set(6, 0, 5);
    isByThen(seven, 10, 1, 64);
  }

  private void isCarried(String of, AntsTurn x, int ant, int who, int beat) {
    e.is(of + ": carried(" + ant + ", 0)", x.carried(ant, 0), who);
    e.is(of + ": carried(" + ant + ", 1)", x.carried(ant, 1), beat);
  }

  private void carried() {
    e.says(20, "CARRIED: who (what 0), the BEAT (1).");
    isCarried("two that meet", pair(), 0, 1, 16);
    isCarried("two that meet", pair(), 1, 0, 8);
    e.says(20, "BAD; NONE.");
    for (int ant : NO_ANT) {
      e.stays(Scene.SOME, "carried(" + ant + ", 0)", x -> x.carried(ant, 0), BAD);
    }
    for (int what : NO_EITHER) {
      e.stays(Scene.SOME, "carried(0, " + what + ")", x -> x.carried(0, what), BAD);
    }
    e.stays(Scene.NEW, "carried(0, 0)", x -> x.carried(0, 0), BAD);
    e.stays(Scene.SOME, "carried(2, 1)", x -> x.carried(2, 1), 38);
    e.says(20, "CARRIED: at first by a told ant; when the one that has it MEETS, of those at its place that face otherwise "
        + "(ahead of turning) the one of the least number has it then,");
    AntsTurn seven = new AntsTurn();
    for (int i = 0; i < 7; i++) {
      seven.ant(0, 509 + (i == 2 || i == 4 || i == 6 ? 10 : 0) - i, 0);
    }
    for (int i = 0; i < 7; i++) {
      isCarried("seven that meet", seven, i, i == 2 || i == 4 || i == 6 ? 0 : 2, 10);
    }
    AntsTurn ahead = with(10, 0, new int[] {1, 400, 0}, new int[] {0, 410, 0});
    isCarried("both face alike behind it", ahead, 0, 1, 12);
    isCarried("both face alike behind it", ahead, 1, 0, 12);
    AntsTurn alike = with(10, 0, new int[] {0, 400, 0}, new int[] {0, 400, 0});
    isCarried("who face alike don't meet", alike, 0, 0, 12);
    isCarried("who face alike don't meet", alike, 1, 1, 12);
  }

  private void carriedTill() {
    e.says(20, "till the one that has it is OFF: who has it behind all BEATS; in which BEAT that one is OFF (NONE).");
    AntsTurn off = with(10, 0, new int[] {0, 910, 0}, new int[] {0, 800, 0}, new int[] {0, 510, 4});
    isCarried("off in 4, ahead of other meetings", off, 1, 0, 4);
    isCarried("alone", with(10, 0, new int[] {0, 500, 20}), 0, 0, 50);
    AntsTurn later = with(10, 0, new int[] {0, 200, 0}, new int[] {0, 510, 3});
    isCarried("who isn't put on yet has it", later, 1, 0, 16);
    isCarried("who is put on gets it", later, 0, 1, 16);
    AntsTurn ring = with(10, 1, new int[] {0, 500, 0}, new int[] {0, 510, 0});
    isCarried("21 times, in beats 0 and 200, too", ring, 0, 1, NONE);
    isCarried("21 times, in beats 0 and 200, too", ring, 1, 0, NONE);
    isCarried("20 times", with(10, 1, new int[] {0, 500, 1}, new int[] {0, 510, 1}), 0, 0, NONE);
    isCarried("never off", ruled(pair(), "number"), 0, 1, NONE);
    isCarried("the other one is never off", ruled(pair(), "number"), 1, 0, 8);
    isCarried("off in 200", late(3), 0, 0, 200);
    isCarried("not off by 200", late(4), 0, 0, NONE);
  }

  private void round() {
    e.says(21, "ROUND. STATE: no RING; NONE.");
    e.stays(Scene.NEW, "round()", AntsTurn::round, STATE);
    e.stays(Scene.SOME, "round()", AntsTurn::round, STATE);
    e.stays(Scene.FULL, "round()", AntsTurn::round, STATE);
    e.says(21, "ROUND: on a RING: the least n of 1 .. 160 so that in BEAT 40 and n all ants are where they are "
        + "in BEAT 40, and face so; NONE.");
    e.is("without ants", with(10, 1).round(), 1);
    e.is("the least ring", with(2, 1, new int[] {0, 100, 0}).round(), 4);
    e.is("the longest ring", with(40, 1, new int[] {0, 100, 0}).round(), 80);
    e.is("put on in beat 40", with(2, 1, new int[] {0, 110, 20}).round(), 4);
    e.is("each turns in every beat",
        with(2, 1, new int[] {0, 100, 0}, new int[] {0, 110, 0}, new int[] {0, 100, 1}, new int[] {0, 110, 1}).round(), 2);
    e.is("where they were in 4 beats, but facing otherwise", with(10, 1, new int[] {0, 500, 1}, new int[] {0, 510, 1}).round(), 20);
    int[][] three = {{0, 100, 0}, {0, 500, 0}, {0, 1410, 0}};
    e.is("three times round a ring of 52", with(26, 1, three).round(), 156);
    e.is("three times round a ring of 54", with(27, 1, three).round(), NONE);
    int[][] four = {{0, 100, 0}, {0, 500, 0}, {0, 1410, 0}, {0, 2500, 0}};
    e.is("two times round a ring of 80", with(40, 1, four).round(), 160);
    AntsTurn text = with(10, 1, new int[] {0, 500, 0}, new int[] {0, 510, 0});
    Texts.rule(text, "turn beat<60;stay 0;heat 0;");
    e.is("they don't turn from beat 60 on", text.round(), NONE);
    Texts.rule(text, "turn beat<40;stay 0;heat 0;");
    e.is("they don't turn from beat 40 on", text.round(), 20);
    Texts.rule(text, "turn beat<41;stay 0;heat 0;");
    e.is("they turn in beat 40 and never behind it", text.round(), 20);
    AntsTurn odd = with(10, 1, new int[] {0, 500, 0}, new int[] {0, 610, 0});
    Texts.rule(odd, "turn beat<41;stay 0;heat 0;");
    e.is("they meet in beat 41 and don't turn any more", odd.round(), 20);
    Texts.rule(odd, "turn beat<42;stay 0;heat 0;");
    e.is("they turn in beat 41, behind beat 40, and never again", odd.round(), NONE);
  }

  private void drawn() {
    e.says(22, "DRAWN. NONE.");
    e.stays(Scene.NEW, "drawn(0)", x -> x.drawn(0), NONE);
    e.stays(Scene.NEW, "drawn(MAX)", x -> x.drawn(MAX), NONE);
    e.is("on a ring", with(10, 1, new int[] {0, 500, 0}).drawn(3), NONE);
    e.is("never off", ruled(pair(), "number").drawn(3), NONE);
    e.says(22, "DRAWN by a SEED: for each ant, by numbers, z = z * 1103515245 + 12345 (an int; SEED at first): "
        + "did it face LEFT at first just if (z >>> 7) % 2 is 1: the BEAT in which the LAST is OFF; NONE.");
    int[] seeds = {0, 1, -1, MIN, MAX, 5, -77, 42};
    String[] lefts = {"0010111", "1110010", "1000111", "0010111", "1000111", "0101000", "0100110", "0111101"};
    for (int k = 0; k < seeds.length; k++) {
      for (int ant = 0; ant < 7; ant++) {
        // All are off in 10, but for the one on knot 9, which is off in 18 if it faces left.
        AntsTurn x = new AntsTurn();
        for (int i = 0; i < 7; i++) {
          x.ant(1, i == ant ? 900 : 510, 0);
        }
        e.is("ant " + ant + " by drawn(" + seeds[k] + ")", x.drawn(seeds[k]), lefts[k].charAt(ant) == '1' ? 18 : 10);
        e.is("it is told to face right still", x.told(ant, 1), 0);
      }
    }
    e.is("by the way that is drawn alone: drawn(0)", late(3).drawn(0), NONE);
    e.is("by the way that is drawn alone: drawn(1)", late(3).drawn(1), 200);
  }

  private void image() {
    e.says(23, "AN IMAGE is kept: how many ants.");
    AntsTurn x = new AntsTurn();
    e.is("without ants: image()", x.image(), 0);
    for (int n = 1; n <= 7; n++) {
      x.ant(0, 100, 0);
      e.is("image() of " + n, x.image(), n);
    }
    e.is("back()", x.back(), 7);
    e.is("image() changes nothing else: count(0)", x.count(0), 7);
    e.says(24, "STATE: there is none.");
    e.stays(Scene.NEW, "back()", AntsTurn::back, STATE);
    e.stays(Scene.FULL, "back()", AntsTurn::back, STATE);
    e.is("another object's image isn't its own: back()", new AntsTurn().back(), STATE);
  }

  private void imageKeeps() {
    e.says(23, "AN IMAGE keeps LONG, RING, KNOTS, facings, STARTS, NUMBERS, THE RULE (ants that came since go).");
    AntsTurn x = with(12, 1, new int[] {3, 1116, 4}, new int[] {0, 203, 20});
    Texts.rule(x, "turn 1;stay 0;heat 1;");
    x.image();
    Texts.rule(x, "turn 1;stay 0;heat 2;");
    x.ant(5, 100, 0);
    int[][] sets = {{0, 1}, {1, 0}, {2, 0}, {3, 0}};
    for (int[] s : sets) {
      x.set(0, s[0], s[1]);
    }
    x.set(1, 0, 1);
    x.set(1, 1, 1);
    x.set(1, 2, 3);
    x.set(1, 3, 9);
    e.is("plank(0, 2)", x.plank(0, 2), 12);
    x.plank(1, 0);
    x.sheet(1, 1, 5);
    x.feed(65);
    e.is("back()", x.back(), 2);
    int[] counts = {2, 12, 1, 3, 1, 1};
    for (int what = 0; what < 6; what++) {
      e.is("count(" + what + ")", x.count(what), counts[what]);
    }
    int[][] told = {{11, 1, 4, 6, 3, 14}, {2, 0, 20, 3, 0, 3}};
    for (int ant = 0; ant < 2; ant++) {
      for (int what = 0; what < 6; what++) {
        e.is("told(" + ant + ", " + what + ")", x.told(ant, what), told[ant][what]);
      }
    }
    e.is("the third one is gone: told(2, 0)", x.told(2, 0), BAD);
    e.is("the third one is gone: order(0)", x.order(0), 0);
    e.is("sheets stay: cell(1, 4, 0)", x.cell(1, 4, 0), 1);
    e.is("texts stay: force(2)", x.force(2), 1);
  }

  private void back() {
    e.says(24, "All that it keeps is as in THE IMAGE: how many ants.");
    AntsTurn x = pair();
    x.image();
    e.is("nothing was changed: back()", x.back(), 2);
    e.is("of(0, 0)", x.of(0, 0), 8);
    x.set(0, 1, 1);
    e.is("of(0, 0) behind set", x.of(0, 0), 4);
    e.is("back() once more", x.back(), 2);
    e.is("of(0, 0) as it was", x.of(0, 0), 8);
    e.is("soonest(1)", x.soonest(1), 8);
    x.ant(1, 900, 5);
    e.is("one more: last(0)", x.last(0), 1);
    e.is("one more: longest(2, 1)", x.longest(2, 1), 28);
    x.back();
    e.is("it is gone: longest(2, 1)", x.longest(2, 1), BAD);
    e.is("another one: ant(4, 307, 1)", x.ant(4, 307, 1), 2);
    int[] told = {3, 0, 1, 7, 4, 6};
    for (int what = 0; what < 6; what++) {
      e.is("told(2, " + what + ")", x.told(2, what), told[what]);
    }
    x.set(0, 0, 9);
    e.is("an image in place of the other one: image()", x.image(), 3);
    x.set(0, 0, 1);
    x.set(2, 3, 1);
    e.is("back() to it", x.back(), 3);
    e.is("told(0, 0)", x.told(0, 0), 9);
    e.is("told(2, 3)", x.told(2, 3), 7);
    AntsTurn none = new AntsTurn();
    none.image();
    for (int i = 0; i < 7; i++) {
      none.ant(0, 100, 0);
    }
    none.plank(1, 1);
    e.is("back() to none", none.back(), 0);
    e.is("count(0)", none.count(0), 0);
    e.is("round()", none.round(), STATE);
    e.is("there is room again: ant(2, 101, 0)", none.ant(2, 101, 0), 0);
    e.is("the image stays: back()", none.back(), 0);
  }

  private void count() {
    e.says(25, "How many: 0 ants, 1 LONG, 2 RING, 3 TEXTS, 4 bytes of THE TAPE, 5 THE RULE.");
    int[] first = {0, 10, 0, 1, 0, 0};
    int[] full = {7, 10, 0, 6, 160, 0};
    int[] some = {3, 10, 0, 2, 6, 0};
    for (int what = 0; what < 6; what++) {
      int w = what;
      e.stays(Scene.NEW, "count(" + what + ")", x -> x.count(w), first[what]);
      e.stays(Scene.FULL, "count(" + what + ")", x -> x.count(w), full[what]);
      e.stays(Scene.SOME, "count(" + what + ")", x -> x.count(w), some[what]);
    }
    AntsTurn x = Scene.FULL.make();
    x.plank(0, 40);
    x.plank(1, 1);
    x.force(5);
    e.is("count(1)", x.count(1), 40);
    e.is("count(2)", x.count(2), 1);
    e.is("count(5)", x.count(5), 5);
    e.says(25, "BAD.");
    for (int what : new int[] {-1, 6, MIN, MAX}) {
      e.stays(Scene.SOME, "count(" + what + ")", y -> y.count(what), BAD);
    }
  }
}
