/** Promises 1 to 5: a new object, the plank and what is told of ants. */
final class EdgesOfPlank extends EdgesOf {
  private EdgesOfPlank(Edges e) {
    super(e);
  }

  static void look(Edges e) {
    EdgesOfPlank t = new EdgesOfPlank(e);
    t.newObject();
    t.constants();
    t.plankBecomes();
    t.plankIsRefused();
    t.antComes();
    t.antIsRefused();
    t.antsAreFull();
    t.setBecomes();
    t.setIsRefused();
    t.told();
    t.weighs();
  }

  private void newObject() {
    AntsTurn x = new AntsTurn();
    e.says(1, "A plank of 10 knots, no ants.");
    e.is("count(1)", x.count(1), 10);
    e.is("count(0)", x.count(0), 0);
    e.is("told(0, 0)", x.told(0, 0), BAD);
    e.is("order(0)", x.order(0), 0);
    e.is("ant(0, 1000, 0)", x.ant(0, 1000, 0), BAD);
    e.is("ant(0, 900, 0)", x.ant(0, 900, 0), 0);
    e.says(1, "a RING (1) or not (0, at first).");
    e.is("count(2)", new AntsTurn().count(2), 0);
    e.is("round()", new AntsTurn().round(), STATE);
    e.says(1, "An object is used for at most 512 calls after it has been made");
    AntsTurn used = new AntsTurn();
    for (int k = 0; k < 511; k++) {
      used.plank(0, 2 + k % 39);
    }
    e.is("the 512th call", used.count(1), 2 + 510 % 39);
    e.says(1, "An object");
    AntsTurn other = new AntsTurn();
    x.plank(0, 20);
    x.feed(65);
    x.sheet(0, 0, 1);
    x.image();
    e.is("another object's count(0)", other.count(0), 0);
    e.is("another object's count(1)", other.count(1), 10);
    e.is("another object's count(4)", other.count(4), 0);
    e.is("another object's cell(0, 0, 0)", other.cell(0, 0, 0), NOTHING);
    e.is("another object's back()", other.back(), STATE);
  }

  private void constants() {
    e.says(1, "NONE is -1; NO, where a long is answered, -4611686018427387904.");
    e.is("NONE", AntsTurn.NONE, -1);
    e.is("NO", AntsTurn.NO, -4611686018427387904L);
    e.says(1, "BAD (-2: a number is none such or not as told), STATE (-3), FULL (-4);");
    e.is("BAD", AntsTurn.BAD, -2);
    e.is("STATE", AntsTurn.STATE, -3);
    e.is("FULL", AntsTurn.FULL, -4);
  }

  private void plankBecomes() {
    AntsTurn x = new AntsTurn();
    e.says(2, "LONG (what 0), RING (1; 0, 1) becomes v: what it was.");
    e.is("plank(0, 39)", x.plank(0, 39), 10);
    e.is("plank(0, 39) again", x.plank(0, 39), 39);
    e.is("plank(1, 0)", x.plank(1, 0), 0);
    e.is("plank(1, 1)", x.plank(1, 1), 0);
    e.is("plank(1, 1) again", x.plank(1, 1), 1);
    e.is("plank(1, 0) behind it", x.plank(1, 0), 1);
    e.is("LONG stays by RING: count(1)", x.count(1), 39);
    x.plank(1, 1);
    x.plank(0, 5);
    e.is("RING stays by LONG: count(2)", x.count(2), 1);
    AntsTurn goes = new AntsTurn();
    goes.ant(0, 800, 0);
    e.is("LONG 10: soonest(1)", goes.soonest(1), 4);
    goes.plank(0, 9);
    e.is("LONG 9: soonest(1)", goes.soonest(1), 2);
    goes.plank(1, 1);
    e.is("on a RING: soonest(1)", goes.soonest(1), -1);
    goes.plank(1, 0);
    e.is("not on a RING: soonest(1)", goes.soonest(1), 2);
    e.says(2, "THE PLANK: LONG (2 .. 40 knots; 10 at first),");
    e.is("at first: plank(0, 10)", new AntsTurn().plank(0, 10), 10);
    e.is("the least: plank(0, 2)", x.plank(0, 2), 5);
    e.is("the most: plank(0, 40)", x.plank(0, 40), 2);
    e.is("count(1)", x.count(1), 40);
    for (int v : new int[] {1, 0, -1, -2, MIN, 41, 42, 100, MAX}) {
      e.stays(Scene.NEW, "plank(0, " + v + ")", y -> y.plank(0, v), BAD);
    }
  }

  private void plankIsRefused() {
    e.says(2, "BAD; STATE: an ant's KNOT would be above LONG less 1.");
    for (int v : new int[] {-1, 2, 3, 10, MIN, MAX}) {
      e.stays(Scene.SOME, "plank(1, " + v + ")", x -> x.plank(1, v), BAD);
    }
    for (int what : new int[] {-1, 2, 3, MIN, MAX}) {
      e.stays(Scene.SOME, "plank(" + what + ", 10)", x -> x.plank(what, 10), BAD);
      e.stays(Scene.SOME, "plank(" + what + ", 1)", x -> x.plank(what, 1), BAD);
    }
    // The ants of SOME stand on knots 2, 4 and 7: BAD is ahead of STATE.
    e.stays(Scene.SOME, "plank(0, 7)", x -> x.plank(0, 7), STATE);
    e.stays(Scene.SOME, "plank(0, 2)", x -> x.plank(0, 2), STATE);
    e.stays(Scene.SOME, "plank(0, 1)", x -> x.plank(0, 1), BAD);
    e.stays(Scene.SOME, "plank(0, 41)", x -> x.plank(0, 41), BAD);
    AntsTurn x = Scene.SOME.make();
    e.is("knot 7: plank(0, 8)", x.plank(0, 8), 10);
    e.is("knot 7: plank(1, 1)", x.plank(1, 1), 0);
    x.set(2, 0, 1);
    e.is("knot 4 is the highest: plank(0, 4)", x.plank(0, 4), STATE);
    e.is("knot 4 is the highest: plank(0, 5)", x.plank(0, 5), 8);
    x.set(0, 0, 4);
    x.set(1, 0, 1);
    e.is("knot 4 of the first ant: plank(0, 4)", x.plank(0, 4), STATE);
    x.set(0, 0, 1);
    e.is("all on knot 1: plank(0, 2)", x.plank(0, 2), 5);
    AntsTurn gone = new AntsTurn();
    gone.image();
    gone.ant(0, 900, 0);
    e.is("an ant on knot 9: plank(0, 9)", gone.plank(0, 9), STATE);
    gone.back();
    e.is("the ant is gone: plank(0, 2)", gone.plank(0, 2), 10);
  }

  private void isToldAs(AntsTurn x, int ant, int... wants) {
    for (int what = 0; what < wants.length; what++) {
      e.is("told(" + ant + ", " + what + ")", x.told(ant, what), wants[what]);
    }
  }

  private void antComes() {
    AntsTurn x = new AntsTurn();
    e.says(3, "An ant (what: 100 times KNOT, 10 times LEFT, and NUMBER; start): its number.");
    e.is("ant(0, 100, 0)", x.ant(0, 100, 0), 0);
    isToldAs(x, 0, 1, 0, 0, 0, 0);
    e.is("ant(5, 919, 20)", x.ant(5, 919, 20), 1);
    isToldAs(x, 1, 9, 1, 20, 9, 5);
    isToldAs(x, 0, 1, 0, 0, 0, 0);
    AntsTurn more = new AntsTurn();
    more.ant(0, 500, 0);
    e.is("one: soonest(1)", more.soonest(1), 10);
    more.ant(1, 900, 20);
    e.is("it goes with those that were there: soonest(1)", more.soonest(1), 42);
    e.is("it goes with those that were there: last(0)", more.last(0), 1);
    e.says(3, "have a KIND: 0 ANT, 1 STUBBORN under ANT, 2 SHY under ANT, 3 TIRED under STUBBORN, 4 PROUD under SHY, 5 EDGY under SHY;");
    AntsTurn kinds = new AntsTurn();
    for (int kind = 0; kind < 6; kind++) {
      e.is("ant(" + kind + ", 500, 0)", kinds.ant(kind, 500, 0), kind);
      e.is("told(" + kind + ", 4)", kinds.told(kind, 4), kind);
    }
    for (int kind : new int[] {-1, 6, 7, MIN, MAX}) {
      e.stays(Scene.SOME, "ant(" + kind + ", 500, 0)", y -> y.ant(kind, 500, 0), BAD);
    }
  }

  private void antIsRefused() {
    e.says(3, "a KNOT (1 .. LONG less 1) on which it is put,");
    for (int what : new int[] {0, 9, 19, 99, -1, -9, -19, -100, -111, MIN, 1000, 1019, 1100, MAX}) {
      e.stays(Scene.SOME, "ant(0, " + what + ", 0)", x -> x.ant(0, what, 0), BAD);
    }
    AntsTurn x = new AntsTurn();
    x.plank(0, 2);
    e.is("LONG 2: ant(0, 200, 0)", x.ant(0, 200, 0), BAD);
    e.is("LONG 2: ant(0, 119, 0)", x.ant(0, 119, 0), 0);
    x.plank(0, 40);
    e.is("LONG 40: ant(0, 4000, 0)", x.ant(0, 4000, 0), BAD);
    e.is("LONG 40: ant(0, 3919, 0)", x.ant(0, 3919, 0), 1);
    isToldAs(x, 1, 39, 1, 0, 9, 0);
    e.says(3, "facing LEFT (1) or right (0),");
    for (int what : new int[] {120, 129, 150, 190, 199}) {
      e.stays(Scene.SOME, "ant(0, " + what + ", 0)", y -> y.ant(0, what, 0), BAD);
    }
    e.is("ant(0, 110, 0)", x.ant(0, 110, 0), 2);
    isToldAs(x, 2, 1, 1, 0, 0, 0);
    e.says(3, "in BEAT 2 times START (START 0 .. 20);");
    for (int start : new int[] {-1, 21, 40, MIN, MAX}) {
      e.stays(Scene.SOME, "ant(0, 100, " + start + ")", y -> y.ant(0, 100, start), BAD);
    }
    e.is("ant(0, 100, 20)", x.ant(0, 100, 20), 3);
    isToldAs(x, 3, 1, 0, 20, 0, 0);
    e.says(3, "a NUMBER (0 .. 9).");
    e.is("ant(0, 109, 0)", x.ant(0, 109, 0), 4);
    isToldAs(x, 4, 1, 0, 0, 9, 0);
    e.is("ant(0, 1100, 0)", x.ant(0, 1100, 0), 5);
    isToldAs(x, 5, 11, 0, 0, 0, 0);
  }

  private void antsAreFull() {
    e.says(3, "ANTS (7 at most, numbered from 0)");
    AntsTurn x = new AntsTurn();
    for (int i = 0; i < 7; i++) {
      e.is("ant " + i, x.ant(i % 6, 100, 0), i);
    }
    e.is("one more", x.ant(0, 100, 0), FULL);
    e.is("count(0)", x.count(0), 7);
    e.says(3, "BAD; FULL.");
    e.stays(Scene.FULL, "ant(0, 100, 0)", y -> y.ant(0, 100, 0), FULL);
    e.stays(Scene.FULL, "ant(6, 100, 0)", y -> y.ant(6, 100, 0), BAD);
    e.stays(Scene.FULL, "ant(0, 120, 0)", y -> y.ant(0, 120, 0), BAD);
    e.stays(Scene.FULL, "ant(0, 1000, 0)", y -> y.ant(0, 1000, 0), BAD);
    e.stays(Scene.FULL, "ant(0, 100, 21)", y -> y.ant(0, 100, 21), BAD);
    AntsTurn gone = new AntsTurn();
    gone.ant(0, 100, 0);
    gone.image();
    for (int i = 1; i < 7; i++) {
      gone.ant(0, 100, 0);
    }
    gone.back();
    e.is("six are gone again: ant(0, 100, 0)", gone.ant(0, 100, 0), 1);
  }

  private void setBecomes() {
    AntsTurn x = new AntsTurn();
    x.ant(0, 512, 3);
    x.ant(0, 512, 3);
    e.says(4, "KNOT (what 0), LEFT (1), START (2), NUMBER (3) of an ant becomes v: what it was.");
    int[] first = {5, 1, 3, 2};
    int[] least = {1, 0, 0, 0};
    int[] most = {9, 1, 20, 9};
    for (int what = 0; what < 4; what++) {
      e.is("set(1, " + what + ", " + least[what] + ")", x.set(1, what, least[what]), first[what]);
      e.is("set(1, " + what + ", " + most[what] + ")", x.set(1, what, most[what]), least[what]);
      e.is("told(1, " + what + ")", x.told(1, what), most[what]);
    }
    isToldAs(x, 1, 9, 1, 20, 9, 0);
    isToldAs(x, 0, 5, 1, 3, 2, 0);
    e.is("put on in beat 40: at(1, 40, 0)", x.at(1, 40, 0), 18);
    e.is("told(1, 5)", x.told(1, 5), 9);
    x.plank(0, 40);
    e.is("LONG 40: set(1, 0, 39)", x.set(1, 0, 39), 9);
    e.is("LONG 40: set(1, 0, 40)", x.set(1, 0, 40), BAD);
    AntsTurn two = new AntsTurn();
    two.plank(0, 2);
    two.ant(0, 100, 0);
    e.is("LONG 2: set(0, 0, 1)", two.set(0, 0, 1), 1);
    e.is("LONG 2: set(0, 0, 2)", two.set(0, 0, 2), BAD);
  }

  private void setIsRefused() {
    e.says(4, "BAD.");
    int[][] bad = {
      {-1, 0, 1}, {3, 0, 1}, {7, 0, 1}, {MIN, 0, 1}, {MAX, 0, 1}, {0, -1, 1}, {0, 4, 1}, {0, 5, 1}, {0, MIN, 1},
      {0, MAX, 1}, {0, 0, 0}, {0, 0, 10}, {0, 0, -1}, {0, 0, MAX}, {0, 1, -1}, {0, 1, 2}, {0, 1, MIN}, {0, 2, -1},
      {0, 2, 21}, {0, 2, MAX}, {0, 3, -1}, {0, 3, 10}, {0, 3, MIN}
    };
    for (int[] b : bad) {
      String call = "set(" + b[0] + ", " + b[1] + ", " + b[2] + ")";
      e.stays(Scene.SOME, call, x -> x.set(b[0], b[1], b[2]), BAD);
    }
    e.stays(Scene.NEW, "set(0, 0, 1)", x -> x.set(0, 0, 1), BAD);
    e.stays(Scene.FULL, "set(7, 0, 1)", x -> x.set(7, 0, 1), BAD);
    AntsTurn full = Scene.FULL.make();
    e.is("the seventh ant: set(6, 3, 0)", full.set(6, 3, 0), 6);
  }

  private void told() {
    e.says(5, "Of an ant: 0 KNOT, 1 LEFT, 2 START, 3 NUMBER, 4 KIND, 5 WEIGHS.");
    AntsTurn x = new AntsTurn();
    x.ant(4, 618, 17);
    isToldAs(x, 0, 6, 1, 17, 8, 4, 7);
    e.says(5, "BAD.");
    for (int ant : new int[] {-1, 3, 7, MIN, MAX}) {
      e.stays(Scene.SOME, "told(" + ant + ", 0)", y -> y.told(ant, 0), BAD);
    }
    for (int what : new int[] {-1, 6, MIN, MAX}) {
      e.stays(Scene.SOME, "told(0, " + what + ")", y -> y.told(0, what), BAD);
    }
    e.stays(Scene.NEW, "told(0, 5)", y -> y.told(0, 5), BAD);
    e.stays(Scene.FULL, "told(6, 5)", y -> y.told(6, 5), 6);
    e.stays(Scene.FULL, "told(7, 5)", y -> y.told(7, 5), BAD);
  }

  private void weighs() {
    e.says(5, "WEIGHS: ANT: NUMBER; STUBBORN: 1 more than an ANT; SHY: half (cut) of an ANT's; TIRED: twice a STUBBORN's; "
        + "PROUD: 3 more than a SHY; EDGY: NUMBER more than a SHY.");
    int[] numbers = {0, 1, 8, 9};
    int[][] wants = {
      {0, 1, 8, 9}, {1, 2, 9, 10}, {0, 0, 4, 4}, {2, 4, 18, 20}, {3, 3, 7, 7}, {0, 1, 12, 13}
    };
    for (int kind = 0; kind < 6; kind++) {
      for (int k = 0; k < 4; k++) {
        AntsTurn x = new AntsTurn();
        x.ant(kind, 100 + numbers[k], 0);
        e.is("kind " + kind + ", NUMBER " + numbers[k], x.told(0, 5), wants[kind][k]);
      }
    }
    e.says(5, "Quotients are cut toward 0.");
    AntsTurn x = new AntsTurn();
    x.ant(2, 103, 0);
    e.is("half of 3", x.told(0, 5), 1);
    x.set(0, 3, 1);
    e.is("half of 1", x.told(0, 5), 0);
    e.is("none such: told(1, 5)", x.told(1, 5), BAD);
  }
}
