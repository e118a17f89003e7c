/** Promises 9 to 14: how they go, where they are, and as if they went through one another. */
final class EdgesOfWalks extends EdgesOf {
  private EdgesOfWalks(Edges e) {
    super(e);
  }

  static void look(Edges e) {
    EdgesOfWalks t = new EdgesOfWalks(e);
    t.of();
    t.ofNoneSuch();
    t.beatByBeat();
    t.whoMeets();
    t.turnsAsItMeets();
    t.backAtAnEnd();
    t.endsOfBeats();
    t.atPlaces();
    t.atNotThere();
    t.atIsRefused();
    t.last();
    t.order();
    t.tilt();
    t.throughBeats();
    t.throughMeetings();
    t.like();
  }

  /** One ant on the middle of a plank of two knots, facing right. */
  private static AntsTurn single(int kind, int number) {
    return with(2, 0, new int[] {kind, 100 + number, 0});
  }

  private void isOf(String of, AntsTurn x, int ant, int... wants) {
    for (int what = 0; what < wants.length; what++) {
      e.is(of + ": of(" + ant + ", " + what + ")", x.of(ant, what), wants[what]);
    }
  }

  private void of() {
    e.says(9, "OF an ant: OFF (what 0), end (1), met (2), turned (3), heat (4).");
    isOf("two that meet", pair(), 0, 8, 0, 1, 1, 1);
    isOf("two that meet", pair(), 1, 16, 1, 1, 1, 1);
    e.says(9, "OF an ant, behind all BEATS: in which it is OFF (NONE), at which end (NONE), how often it met, turned (at ends, too), "
        + "heat of all its meetings;");
    isOf("next to an end", with(10, 0, new int[] {0, 900, 0}), 0, 2, 1, 0, 0, 0);
    isOf("next to an end", with(10, 0, new int[] {0, 110, 0}), 0, 2, 0, 0, 0, 0);
    isOf("put on last", with(40, 0, new int[] {0, 3910, 20}), 0, 118, 0, 0, 0, 0);
    isOf("on a ring", with(10, 1, new int[] {0, 500, 0}), 0, NONE, NONE, 0, 0, 0);
    isOf("21 times on a ring", with(10, 1, new int[] {0, 500, 0}, new int[] {0, 510, 0}), 1, NONE, NONE, 21, 21, 21);
    // It turns as it meets on place 6, at the end 0 in beat 8, and is off at the end 1 in beat 28.
    isOf("turned at an end, too", with(10, 0, new int[] {2, 201, 0}, new int[] {0, 410, 0}), 0, 28, 1, 1, 2, 1);
    AntsTurn stays = pair();
    Texts.rule(stays, "turn 1;stay 1;heat 0;");
    isOf("never off", stays, 0, NONE, NONE);
  }

  private void ofNoneSuch() {
    e.says(9, "-100000: none such; NONE.");
    for (int ant : new int[] {-1, 3, 7, MIN, MAX}) {
      e.stays(Scene.SOME, "of(" + ant + ", 0)", x -> x.of(ant, 0), NO_SUCH);
    }
    for (int what : new int[] {-1, 5, MIN, MAX}) {
      e.stays(Scene.SOME, "of(0, " + what + ")", x -> x.of(0, what), NO_SUCH);
    }
    e.stays(Scene.NEW, "of(0, 0)", x -> x.of(0, 0), NO_SUCH);
    e.stays(Scene.FULL, "of(7, 4)", x -> x.of(7, 4), NO_SUCH);
    e.stays(Scene.SOME, "of(0, 1)", x -> x.of(0, 1), 0);
    AntsTurn full = with(10, 0);
    for (int i = 0; i < 7; i++) {
      full.ant(0, 100, i);
    }
    e.is("the seventh ant: of(6, 0)", full.of(6, 0), 30);
  }

  private void beatByBeat() {
    e.says(9, "BEAT by BEAT, 0 .. 200: first all ants that are on THE PLANK go one HALF, LEFT ones to less, others to more; "
        + "then those whose BEAT it is are put on their KNOTS.");
    AntsTurn x = with(10, 0, new int[] {0, 200, 0}, new int[] {0, 510, 3});
    isOf("put on where another one comes to, they meet at once", x, 0, 16, 0, 1, 1, 1);
    isOf("put on where another one comes to, they meet at once", x, 1, 16, 1, 1, 1, 1);
    e.is("not put on yet: at(1, 5, 0)", x.at(1, 5, 0), NONE);
    e.is("put on, it doesn't go yet: at(1, 6, 0)", x.at(1, 6, 0), 10);
    e.is("it has turned: at(1, 6, 1)", x.at(1, 6, 1), 0);
    e.is("it goes: at(1, 7, 0)", x.at(1, 7, 0), 11);
    AntsTurn late = with(10, 0, new int[] {0, 500, 0}, new int[] {0, 510, 1});
    isOf("the other one has gone by then", late, 0, 10, 1, 0, 0, 0);
    isOf("the other one has gone by then", late, 1, 12, 0, 0, 0, 0);
  }

  private void whoMeets() {
    e.says(9, "Then, where ants that face LEFT and ants that don't are at one place, all of that place MEET: "
        + "of each it is told, by how all is then, whether it turns (if TURNS and turn tell it), and heat; "
        + "then these turn, and each has met once more.");
    AntsTurn alike = with(10, 0, new int[] {0, 500, 0}, new int[] {0, 500, 0});
    isOf("both face alike, so that they don't meet", alike, 0, 10, 1, 0, 0, 0);
    AntsTurn three = with(10, 0, new int[] {0, 500, 0}, new int[] {0, 500, 0}, new int[] {0, 510, 0});
    isOf("with one that doesn't, all of the place meet", three, 0, 10, 0, 1, 1, 2);
    isOf("with one that doesn't, all of the place meet", three, 1, 10, 0, 1, 1, 2);
    isOf("with one that doesn't, all of the place meet", three, 2, 10, 1, 1, 1, 2);
    AntsTurn seven = with(10, 0);
    for (int i = 0; i < 7; i++) {
      seven.ant(0, 500 + 10 * (i % 2), 0);
    }
    for (int i = 0; i < 7; i++) {
      isOf("seven at one place", seven, i, 10, i % 2, 1, 1, 6);
    }
    AntsTurn next = with(10, 0, new int[] {0, 500, 0}, new int[] {0, 610, 0}, new int[] {0, 500, 0});
    e.is("next to one another they haven't met yet: at(0, 0, 1)", next.at(0, 0, 1), 0);
    isOf("half a knot on they meet", next, 0, 12, 0, 1, 1, 2);
    AntsTurn stubborn = with(10, 0, new int[] {1, 500, 0}, new int[] {0, 510, 0});
    isOf("it doesn't turn, but has met", stubborn, 0, 10, 1, 1, 0, 1);
    isOf("the other one has turned", stubborn, 1, 10, 1, 1, 1, 1);
    AntsTurn text = with(10, 0, new int[] {0, 500, 0}, new int[] {0, 510, 0});
    Texts.rule(text, "turn number;stay 0;heat 9;");
    isOf("its text tells no", text, 0, 10, 1, 1, 0, 9);
    isOf("its text tells yes", text, 1, 10, 1, 1, 1, 9);
  }

  /** On a ring two meet every ten beats; the other one turns too, but for the meeting that has the ant's NUMBER. */
  private void turnsAsItMeets() {
    e.says(9, "TURNS (whether it turns as it meets, having met m times ahead of that): ANT: yes; STUBBORN: no; SHY as an ANT; "
        + "TIRED: if m is below NUMBER, else as a STUBBORN; PROUD: as a SHY, but not if m is NUMBER; EDGY as a SHY.");
    for (int number : new int[] {0, 1, 2, 9}) {
      for (int kind : new int[] {0, 2, 5}) {
        AntsTurn x = with(10, 1, new int[] {kind, 500 + number, 0}, new int[] {0, 510, 0});
        isOf("kind " + kind + ", NUMBER " + number, x, 0, NONE, NONE, 21, 21);
      }
      AntsTurn stubborn = with(10, 1, new int[] {1, 500 + number, 0}, new int[] {0, 510, 0});
      isOf("STUBBORN, so that both go right", stubborn, 0, NONE, NONE, 1, 0);
      AntsTurn tired = with(10, 1, new int[] {3, 500 + number, 0}, new int[] {0, 510, 0});
      isOf("TIRED, NUMBER " + number, tired, 0, NONE, NONE, number + 1, number);
      isOf("TIRED, NUMBER " + number, tired, 1, NONE, NONE, number + 1, number + 1);
      AntsTurn proud = with(10, 1, new int[] {4, 500 + number, 0}, new int[] {0, 510, 0});
      isOf("PROUD, NUMBER " + number, proud, 0, NONE, NONE, number + 1, number);
      String rule = "turn not (number=1 and meets=" + number + ");stay 0;heat 0;";
      Texts.rule(tired, rule);
      isOf("TIRED, it won't turn any more", tired, 0, NONE, NONE, number + 2, number);
      Texts.rule(proud, rule);
      isOf("PROUD, it turns again", proud, 0, NONE, NONE, 21, 20);
      isOf("PROUD, the other one", proud, 1, NONE, NONE, 21, 20);
    }
  }

  /** At the ends of a plank of two knots in beats 2, 6, 10 ..; the first one is the end 1. */
  private void backAtAnEnd() {
    e.says(9, "BACK (whether it turns at an end, having turned at ends e times ahead of that): ANT: no; STUBBORN as an ANT; "
        + "SHY: if e is below NUMBER; TIRED as a STUBBORN; PROUD: as a SHY, or e is 0; EDGY: as a SHY, and e is even.");
    int[][] turns = {
      {0, 0, 0, 0}, {0, 0, 0, 0}, {0, 1, 2, 9}, {0, 0, 0, 0}, {1, 1, 2, 9}, {0, 1, 1, 1}
    };
    int[] numbers = {0, 1, 2, 9};
    for (int kind = 0; kind < 6; kind++) {
      for (int k = 0; k < 4; k++) {
        int n = turns[kind][k];
        isOf("kind " + kind + ", NUMBER " + numbers[k], single(kind, numbers[k]), 0, 2 + 4 * n, 1 - n % 2, 0, n, 0);
      }
    }
    AntsTurn edgy = single(5, 9);
    Texts.rule(edgy, "turn 1;stay beat=6;heat 0;");
    isOf("EDGY, e is even again by its text", edgy, 0, 14, 0, 0, 3);
    edgy.set(0, 3, 2);
    isOf("EDGY, e is even, but not below NUMBER", edgy, 0, 10, 1, 0, 2);
    AntsTurn shy = single(2, 1);
    Texts.rule(shy, "turn 1;stay beat=2;heat 0;");
    isOf("SHY, turned by both once", shy, 0, 6, 0, 0, 1);
    AntsTurn met = with(10, 0, new int[] {2, 201, 0}, new int[] {0, 410, 0});
    isOf("SHY, meetings aren't ends", met, 0, 28, 1, 1, 2);
    e.says(9, "Then, not on a RING, of each ant that faces LEFT at 0, or doesn't at 2 LONG, it is told, by how all is then, "
        + "whether it turns (if BACK or stay tells it); then these turn; the others are OFF in that BEAT, at end 0 (place 0) or 1.");
    AntsTurn ring = with(2, 1, new int[] {2, 109, 0});
    isOf("SHY, on a ring there is no end", ring, 0, NONE, NONE, 0, 0, 0);
    AntsTurn two = with(2, 0, new int[] {0, 100, 0}, new int[] {0, 110, 1});
    isOf("at the end 1", two, 0, 2, 1);
    isOf("at the end 0", two, 1, 4, 0);
    Texts.rule(two, "turn 1;stay number;heat 0;");
    isOf("one stays", two, 1, NONE, NONE, 0, 50);
    isOf("the other one is off", two, 0, 2, 1, 0, 0);
  }

  private void endsOfBeats() {
    e.says(9, "BEAT by BEAT, 0 .. 200");
    isOf("off in beat 200", late(3), 0, 200, 1, 0, 7);
    isOf("not off in beat 202", late(4), 0, NONE, NONE, 0, 7);
    e.is("in beat 200 it is off: at(0, 200, 0)", late(3).at(0, 200, 0), NONE);
    e.is("in beat 199 it isn't: at(0, 199, 0)", late(3).at(0, 199, 0), 21);
    isOf("it meets in beat 0", with(10, 0, new int[] {0, 510, 0}, new int[] {0, 500, 0}), 0, 10, 1, 1, 1);
    AntsTurn lastOne = with(10, 1, new int[] {0, 500, 0}, new int[] {0, 510, 0});
    Texts.rule(lastOne, "turn 1;stay 0;heat beat=200;");
    isOf("it meets in beat 200", lastOne, 0, NONE, NONE, 21, 21, 1);
    isOf("put on in beat 2, it meets in beats 2 to 192", with(10, 1, new int[] {0, 500, 1}, new int[] {0, 510, 1}), 0, NONE, NONE, 20);
  }

  private void isAt(AntsTurn x, int ant, int beat, int place, int left) {
    e.is("at(" + ant + ", " + beat + ", 0)", x.at(ant, beat, 0), place);
    e.is("at(" + ant + ", " + beat + ", 1)", x.at(ant, beat, 1), left);
  }

  private void atPlaces() {
    e.says(10, "AT a BEAT: its place (what 0), LEFT (1; NONE: it isn't there).");
    AntsTurn x = pair();
    isAt(x, 0, 0, 4, 0);
    isAt(x, 0, 1, 5, 0);
    isAt(x, 0, 2, 6, 1);
    isAt(x, 0, 3, 5, 1);
    isAt(x, 1, 2, 6, 0);
    e.says(10, "Places are told in HALVES of a knot (0 .. 2 LONG; on a RING 0 .. 2 LONG less 1, round), "
        + "times in BEATS, in each of which an ant goes one HALF.");
    AntsTurn ring = with(40, 1, new int[] {0, 3900, 0}, new int[] {1, 110, 0});
    isAt(ring, 0, 0, 78, 0);
    isAt(ring, 0, 1, 79, 0);
    isAt(ring, 1, 1, 1, 1);
    isAt(ring, 0, 2, 0, 1);
    isAt(ring, 1, 2, 0, 1);
    isAt(ring, 0, 3, 79, 1);
    isAt(ring, 1, 3, 79, 1);
    AntsTurn small = with(2, 1, new int[] {0, 100, 0});
    isAt(small, 0, 1, 3, 0);
    isAt(small, 0, 2, 0, 0);
    isAt(small, 0, 4, 2, 0);
    isAt(small, 0, 200, 2, 0);
    AntsTurn ends = with(40, 0, new int[] {2, 3909, 0}, new int[] {2, 119, 0});
    isAt(ends, 0, 1, 79, 0);
    isAt(ends, 0, 2, 80, 1);
    isAt(ends, 0, 3, 79, 1);
    isAt(ends, 1, 1, 1, 1);
    isAt(ends, 1, 2, 0, 0);
    isAt(ends, 1, 3, 1, 0);
  }

  private void atNotThere() {
    e.says(10, "AT a BEAT (0 .. 200), behind all that is done in it: its place (NONE: not put on yet, or OFF), whether it faces LEFT.");
    AntsTurn x = with(10, 0, new int[] {0, 110, 20}, new int[] {0, 900, 0}, new int[] {0, 500, 1});
    isAt(x, 0, 0, NONE, NONE);
    isAt(x, 0, 39, NONE, NONE);
    isAt(x, 0, 40, 2, 1);
    isAt(x, 0, 41, 1, 1);
    isAt(x, 0, 42, NONE, NONE);
    isAt(x, 0, 200, NONE, NONE);
    isAt(x, 1, 0, 18, 0);
    isAt(x, 1, 1, 19, 0);
    isAt(x, 1, 2, NONE, NONE);
    isAt(x, 2, 1, NONE, NONE);
    isAt(x, 2, 2, 10, 0);
    isAt(late(4), 0, 200, 20, 0);
  }

  private void atIsRefused() {
    e.says(10, "BAD; NONE.");
    for (int ant : new int[] {-1, 3, 7, MIN, MAX}) {
      e.stays(Scene.SOME, "at(" + ant + ", 0, 0)", x -> x.at(ant, 0, 0), BAD);
    }
    for (int beat : new int[] {-1, 201, MIN, MAX}) {
      e.stays(Scene.SOME, "at(0, " + beat + ", 0)", x -> x.at(0, beat, 0), BAD);
    }
    for (int what : new int[] {-1, 2, MIN, MAX}) {
      e.stays(Scene.SOME, "at(0, 200, " + what + ")", x -> x.at(0, 200, what), BAD);
    }
    e.stays(Scene.NEW, "at(0, 0, 0)", x -> x.at(0, 0, 0), BAD);
    e.stays(Scene.SOME, "at(0, 200, 1)", x -> x.at(0, 200, 1), NONE);
    e.stays(Scene.FULL, "at(6, 0, 0)", x -> x.at(6, 0, 0), NONE);
  }

  private void last() {
    e.says(11, "LAST (what 0), the BEAT (1).");
    e.is("last(0)", pair().last(0), 1);
    e.is("last(1)", pair().last(1), 16);
    e.says(11, "BAD; NONE.");
    for (int what : new int[] {-1, 2, MIN, MAX}) {
      e.stays(Scene.SOME, "last(" + what + ")", x -> x.last(what), BAD);
      e.stays(Scene.NEW, "last(" + what + ")", x -> x.last(what), BAD);
    }
    e.stays(Scene.NEW, "last(0)", x -> x.last(0), NONE);
    e.stays(Scene.NEW, "last(1)", x -> x.last(1), NONE);
    e.says(11, "LAST: the ant that is OFF last (of like ones the first), if all are; NONE.");
    AntsTurn like = with(10, 0, new int[] {0, 910, 0}, new int[] {0, 500, 4}, new int[] {0, 510, 4}, new int[] {0, 110, 0});
    e.is("three are off in 18: last(0)", like.last(0), 0);
    e.is("three are off in 18: last(1)", like.last(1), 18);
    like.set(0, 2, 1);
    e.is("it meets the third one in 9: last(0)", like.last(0), 2);
    e.is("it meets the third one in 9: last(1)", like.last(1), 20);
    like.set(0, 0, 1);
    e.is("two are off in 18: last(0)", like.last(0), 1);
    e.is("two are off in 18: last(1)", like.last(1), 18);
    AntsTurn none = pair();
    Texts.rule(none, "turn 1;stay number;heat 0;");
    e.is("one is never off: last(0)", none.last(0), NONE);
    e.is("one is never off: last(1)", none.last(1), NONE);
    Texts.rule(none, "turn 1;stay not number;heat 0;");
    e.is("the first one is never off: last(0)", none.last(0), NONE);
    e.is("off in 200: last(0)", late(3).last(0), 0);
    e.is("off in 200: last(1)", late(3).last(1), 200);
    e.is("not off by 200: last(1)", late(4).last(1), NONE);
    e.is("on a ring: last(0)", with(10, 1, new int[] {0, 500, 0}).last(0), NONE);
  }

  private void order() {
    e.says(12, "ORDER. BAD.");
    for (int beat : new int[] {-1, 201, MIN, MAX}) {
      e.stays(Scene.SOME, "order(" + beat + ")", x -> x.order(beat), BAD);
    }
    e.stays(Scene.SOME, "order(0)", x -> x.order(0), 1);
    e.says(12, "ORDER: ants by places (of like places by numbers) at a BEAT, as digits, "
        + "each 1 more, the first one's the highest (0: none).");
    e.stays(Scene.NEW, "order(0)", x -> x.order(0), 0);
    e.stays(Scene.NEW, "order(200)", x -> x.order(200), 0);
    AntsTurn x = with(10, 0);
    int[] knots = {9, 5, 5, 1, 5, 9, 1};
    for (int knot : knots) {
      x.ant(1, 100 * knot + (knot == 1 ? 10 : 0), 0);
    }
    e.is("of like places by numbers: order(0)", x.order(0), 4723516);
    e.is("order(1)", x.order(1), 4723516);
    e.is("four are off: order(2)", x.order(2), 235);
    e.is("all are off: order(10)", x.order(10), 0);
    e.is("all are off: order(200)", x.order(200), 0);
    AntsTurn back = with(10, 0);
    for (int i = 0; i < 7; i++) {
      back.ant(0, 100 * (7 - i), 6 - i);
    }
    e.is("the last one alone: order(0)", back.order(0), 7);
    e.is("two: order(2)", back.order(2), 67);
    e.is("six: order(10)", back.order(10), 234567);
    e.is("all seven: order(12)", back.order(12), 1234567);
    e.is("all seven: order(17)", back.order(17), 1234567);
    e.is("none: order(18)", back.order(18), 0);
  }

  private void tilt() {
    e.says(13, "What ants on THE PLANK at a BEAT WEIGH together on its left half (places below LONG), less on the other one (above LONG).");
    AntsTurn x = with(10, 0, new int[] {1, 409, 0});
    int[][] wants = {{0, 10}, {1, 10}, {2, 0}, {3, -10}, {11, -10}, {12, 0}, {200, 0}};
    for (int[] w : wants) {
      e.is("on places 8, 9, 10 ..: tilt(" + w[0] + ")", x.tilt(w[0]), w[1]);
    }
    x.ant(3, 909, 1);
    x.ant(0, 103, 1);
    x.ant(0, 100, 0);
    e.is("two aren't put on yet: tilt(1)", x.tilt(1), 10);
    e.is("they are put on: tilt(2)", x.tilt(2), 3 - 20);
    e.is("the heaviest one is off: tilt(4)", x.tilt(4), 3 - 10);
    AntsTurn ring = with(2, 1, new int[] {0, 105, 0});
    int[] round = {0, -5, 5, 5, 0};
    for (int beat = 0; beat < 5; beat++) {
      e.is("on a ring: tilt(" + beat + ")", ring.tilt(beat), round[beat]);
    }
    AntsTurn seven = with(40, 0);
    for (int i = 0; i < 7; i++) {
      seven.ant(3, 2009, 0);
    }
    e.is("seven in the middle: tilt(0)", seven.tilt(0), 0);
    e.is("seven to the right: tilt(39)", seven.tilt(39), -140);
    e.is("seven are off: tilt(40)", seven.tilt(40), 0);
    for (int i = 0; i < 7; i++) {
      seven.set(i, 1, 1);
    }
    e.is("seven to the left: tilt(1)", seven.tilt(1), 140);
    e.is("in beat 200: tilt(200)", late(4).tilt(200), -3);
    e.says(13, "-100000: BEAT.");
    for (int beat : new int[] {-1, 201, MIN, MAX}) {
      e.stays(Scene.SOME, "tilt(" + beat + ")", y -> y.tilt(beat), NO_SUCH);
    }
    e.stays(Scene.NEW, "tilt(0)", y -> y.tilt(0), 0);
    e.stays(Scene.NEW, "tilt(200)", y -> y.tilt(200), 0);
    e.stays(Scene.NEW, "tilt(201)", y -> y.tilt(201), NO_SUCH);
  }

  private void throughBeats() {
    e.says(14, "THROUGH: BEAT of an ant (what 0), meetings in all (1; ant does not matter), LIKE (2; likewise).");
    for (int ant : new int[] {-1, 0, 1, 2, 7, MIN, MAX}) {
      e.is("through(" + ant + ", 1)", pair().through(ant, 1), 1);
      e.is("through(" + ant + ", 2)", pair().through(ant, 2), 1);
    }
    e.is("through(0, 0)", pair().through(0, 0), 16);
    e.is("through(1, 0)", pair().through(1, 0), 8);
    e.says(14, "BAD; NONE.");
    for (int ant : new int[] {-1, 3, 7, MIN, MAX}) {
      e.stays(Scene.SOME, "through(" + ant + ", 0)", x -> x.through(ant, 0), BAD);
    }
    for (int what : new int[] {-1, 3, MIN, MAX}) {
      e.stays(Scene.SOME, "through(0, " + what + ")", x -> x.through(0, what), BAD);
      e.stays(Scene.NEW, "through(0, " + what + ")", x -> x.through(0, what), BAD);
    }
    e.stays(Scene.SOME, "through(0, 0)", x -> x.through(0, 0), 16);
    e.stays(Scene.NEW, "through(0, 0)", x -> x.through(0, 0), BAD);
    e.stays(Scene.NEW, "through(0, 1)", x -> x.through(0, 1), 0);
    e.stays(Scene.NEW, "through(0, 2)", x -> x.through(0, 2), 1);
    e.says(14, "THROUGH: as if nobody turned where they MEET (at ends as ever): the BEAT in which an ant is OFF;");
    AntsTurn shy = with(10, 0, new int[] {2, 201, 0}, new int[] {0, 410, 0});
    e.is("BACK at the end 1: through(0, 0)", shy.through(0, 0), 36);
    e.is("BACK of none else: through(1, 0)", shy.through(1, 0), 8);
    e.is("it is as it was: of(0, 0)", shy.of(0, 0), 28);
    AntsTurn stays = pair();
    Texts.rule(stays, "turn 1;stay number=0 and beat<20;heat 0;");
    e.is("stay tells it: through(0, 0)", stays.through(0, 0), 36);
    Texts.rule(stays, "turn 1;stay meets=1 and beat<20;heat 0;");
    e.is("they have met: through(1, 0)", stays.through(1, 0), 28);
    e.is("off in 200", late(3).through(0, 0), 200);
    e.is("not off by 200", late(4).through(0, 0), NONE);
    e.is("on a ring", with(10, 1, new int[] {0, 500, 0}).through(0, 0), NONE);
  }

  private void throughMeetings() {
    e.says(14, "how many pairs at one place, the one LEFT and the other one not, there are in all BEATS together, as they MEET.");
    AntsTurn seven = with(10, 0);
    for (int i = 0; i < 7; i++) {
      seven.ant(i % 6, 500 + 10 * (i % 2), 0);
    }
    e.is("four and three: through(0, 1)", seven.through(0, 1), 12);
    seven.plank(1, 1);
    e.is("21 times on a ring: through(0, 1)", seven.through(0, 1), 252);
    AntsTurn one = with(10, 0, new int[] {0, 200, 0}, new int[] {0, 410, 0}, new int[] {0, 610, 0}, new int[] {0, 200, 0});
    e.is("one after another: through(0, 1)", one.through(0, 1), 4);
    one.set(1, 1, 0);
    one.set(2, 1, 0);
    e.is("all alike: through(0, 1)", one.through(0, 1), 0);
    AntsTurn off = with(10, 0, new int[] {0, 910, 10}, new int[] {0, 800, 0});
    e.is("off by then: through(0, 1)", off.through(0, 1), 0);
  }

  private void like() {
    e.says(14, "LIKE: 1, if BEATS in which ants are OFF (NONE, too) are, put in order, the same as if they went THROUGH, else 0.");
    AntsTurn three = with(10, 0, new int[] {0, 200, 0}, new int[] {0, 200, 0}, new int[] {0, 410, 0});
    e.is("8, 8, 16 and 8, 16, 16: through(0, 2)", three.through(0, 2), 0);
    three.ant(0, 410, 0);
    e.is("8, 8, 16, 16 both times: through(0, 2)", three.through(0, 2), 1);
    AntsTurn x = with(10, 0, new int[] {0, 500, 0}, new int[] {0, 510, 0});
    Object[][] rules = {
      {"0", 1}, {"number", 1}, {"not number", 1}, {"1", 1}, {"number and left", 0},
      {"not number and (beat<15 or left and beat<35)", 0}, {"number and (left or 20<beat)", 0}
    };
    for (Object[] r : rules) {
      AntsTurn y = with(10, 0, new int[] {0, 500, 0}, new int[] {0, 510, 0});
      Texts.rule(y, "turn 1;stay " + r[0] + ";heat 0;");
      e.is("stay " + r[0] + ": through(0, 2)", y.through(0, 2), (Integer) r[1]);
    }
    x.plank(1, 1);
    e.is("NONE of both on a ring: through(0, 2)", x.through(0, 2), 1);
    AntsTurn stubborn = with(10, 0, new int[] {1, 200, 0}, new int[] {0, 410, 0});
    e.is("16, 16 and 8, 16: through(0, 2)", stubborn.through(0, 2), 0);
    stubborn.set(1, 1, 0);
    e.is("nobody meets: through(0, 2)", stubborn.through(0, 2), 1);
  }
}
