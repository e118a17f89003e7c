/** Promise by promise: ordinary inputs, the edges that the document names, and wrong inputs. */
public final class PromiseTest {
  private static final int MIN = Integer.MIN_VALUE;
  private static final int MAX = Integer.MAX_VALUE;
  private static final int NO_SUCH = -100000;
  private static final Due DUE = new Due("PromiseTest");

  private static void due(String call, long got, long want) {
    DUE.is(call, got, want);
  }

  private static int text(AntsTurn x, String letters) {
    for (int i = 0; i < letters.length(); i++) {
      x.feed(letters.charAt(i));
    }
    return x.text();
  }

  private static void rule(AntsTurn x, String letters) {
    int text = text(x, letters);
    DUE.holds("a text: " + letters, text > 0);
    x.force(text);
  }

  private static void row(AntsTurn x, int sheet, int sort, int... cells) {
    x.sheet(sheet, sort, cells.length);
    for (int i = 0; i < cells.length; i++) {
      x.cell(sheet, i, cells[i]);
    }
  }

  /** Two ants, on knots 2 and 4 of 10, that meet on knot 3 in beat 2. */
  private static AntsTurn pair() {
    AntsTurn x = new AntsTurn();
    x.ant(0, 200, 0);
    x.ant(0, 410, 0);
    return x;
  }

  /** Three that meet on knot 3 in beat 2, of which two go to the right. */
  private static AntsTurn trio() {
    AntsTurn x = new AntsTurn();
    x.ant(0, 201, 0);
    x.ant(0, 202, 0);
    x.ant(0, 414, 0);
    return x;
  }

  /** One ant of a kind and a number on the middle of a plank of 2 knots, facing right. */
  private static AntsTurn single(int kind, int number) {
    AntsTurn x = new AntsTurn();
    x.plank(0, 2);
    x.ant(kind, 100 + number, 0);
    return x;
  }

  public static void main(String[] args) {
    newObject();
    plank();
    ant();
    set();
    told();
    feed();
    text();
    faults();
    depths();
    force();
    worths();
    names();
    of();
    kindsThatMeet();
    kindsAtEnds();
    textsAtEnds();
    at();
    last();
    order();
    tilt();
    through();
    soonest();
    beLast();
    longest();
    fits();
    heard();
    byThen();
    carried();
    round();
    drawn();
    imageAndBack();
    count();
    sheet();
    cell();
    copy();
    ants();
    taken();
    DUE.end();
  }

  private static void newObject() {
    AntsTurn x = new AntsTurn();
    int[] counts = {0, 10, 0, 1, 0, 0};
    for (int what = 0; what < counts.length; what++) {
      due("new: count(" + what + ")", x.count(what), counts[what]);
    }
    for (int s = 0; s < 4; s++) {
      due("new: cell(" + s + ", 0, 0)", x.cell(s, 0, 0), -11);
    }
    due("new: back()", x.back(), AntsTurn.STATE);
    due("new: told(0, 0)", x.told(0, 0), AntsTurn.BAD);
  }

  private static void plank() {
    AntsTurn x = new AntsTurn();
    due("plank(0, 2)", x.plank(0, 2), 10);
    due("plank(0, 40)", x.plank(0, 40), 2);
    due("plank(0, 1)", x.plank(0, 1), AntsTurn.BAD);
    due("plank(0, 41)", x.plank(0, 41), AntsTurn.BAD);
    due("plank(0, MIN)", x.plank(0, MIN), AntsTurn.BAD);
    due("plank(1, 1)", x.plank(1, 1), 0);
    due("plank(1, 1) again", x.plank(1, 1), 1);
    due("plank(1, 2)", x.plank(1, 2), AntsTurn.BAD);
    due("plank(1, -1)", x.plank(1, -1), AntsTurn.BAD);
    due("plank(-1, 1)", x.plank(-1, 1), AntsTurn.BAD);
    due("plank(2, 1)", x.plank(2, 1), AntsTurn.BAD);
    due("count(2) is kept", x.count(2), 1);
    due("plank(1, 0)", x.plank(1, 0), 1);
    due("plank(0, 10)", x.plank(0, 10), 40);
    x.ant(0, 700, 0);
    x.ant(0, 300, 0);
    due("an ant on 7: plank(0, 8)", x.plank(0, 8), 10);
    due("an ant on 7: plank(0, 7)", x.plank(0, 7), AntsTurn.STATE);
    due("an ant on 7: plank(0, 1)", x.plank(0, 1), AntsTurn.BAD);
    due("an ant on 7: plank(1, 2)", x.plank(1, 2), AntsTurn.BAD);
    due("count(1) is kept", x.count(1), 8);
    due("of(0, 0)", x.of(0, 0), 2);
    due("plank(0, 20)", x.plank(0, 20), 8);
    due("of(0, 0) on a longer one", x.of(0, 0), 26);
    due("last(1)", x.last(1), 34);
    x.plank(0, 10);
    due("last(1) on a shorter one", x.last(1), 14);
    x.plank(1, 1);
    due("last(1) on a ring", x.last(1), AntsTurn.NONE);
  }

  private static void ant() {
    AntsTurn x = new AntsTurn();
    int[][] bad = {
      {-1, 100, 0}, {6, 100, 0}, {0, 99, 0}, {0, 0, 0}, {0, 1000, 0}, {0, 120, 0}, {0, 190, 0}, {0, -1, 0},
      {0, -100, 0}, {0, 100, -1}, {0, 100, 21}, {0, MIN, 0}, {0, MAX, 0}, {MAX, 100, 0}, {0, 100, MAX}
    };
    for (int[] b : bad) {
      due("ant(" + b[0] + ", " + b[1] + ", " + b[2] + ")", x.ant(b[0], b[1], b[2]), AntsTurn.BAD);
    }
    due("none came", x.count(0), 0);
    due("ant(0, 100, 0)", x.ant(0, 100, 0), 0);
    due("ant(5, 919, 20)", x.ant(5, 919, 20), 1);
    int[] wants = {9, 1, 20, 9, 5};
    for (int what = 0; what < wants.length; what++) {
      due("ant(5, 919, 20): told(1, " + what + ")", x.told(1, what), wants[what]);
    }
    x.plank(0, 40);
    due("ant(1, 3919, 1)", x.ant(1, 3919, 1), 2);
    due("ant(1, 4000, 1)", x.ant(1, 4000, 1), AntsTurn.BAD);
    for (int i = 3; i < 7; i++) {
      due("ant " + i, x.ant(i - 2, 100 + i, i), i);
    }
    due("an eighth ant", x.ant(0, 100, 0), AntsTurn.FULL);
    due("an eighth ant that is none", x.ant(0, 120, 0), AntsTurn.BAD);
    due("seven ants", x.count(0), 7);
    AntsTurn one = new AntsTurn();
    one.ant(0, 500, 0);
    due("last(1)", one.last(1), 10);
    one.ant(0, 100, 0);
    due("last(1) with one more", one.last(1), 18);
  }

  private static void set() {
    AntsTurn x = pair();
    due("set(1, 0, 9)", x.set(1, 0, 9), 4);
    due("set(1, 0, 1)", x.set(1, 0, 1), 9);
    due("set(1, 1, 0)", x.set(1, 1, 0), 1);
    due("set(1, 1, 1)", x.set(1, 1, 1), 0);
    due("set(1, 2, 20)", x.set(1, 2, 20), 0);
    due("set(1, 3, 9)", x.set(1, 3, 9), 0);
    due("told(1, 0)", x.told(1, 0), 1);
    due("told(1, 1)", x.told(1, 1), 1);
    due("told(1, 2)", x.told(1, 2), 20);
    due("told(1, 3)", x.told(1, 3), 9);
    due("told(0, 0)", x.told(0, 0), 2);
    due("set(1, 3, 0)", x.set(1, 3, 0), 9);
    due("set(1, 2, 0)", x.set(1, 2, 0), 20);
    due("set(1, 2, 20)", x.set(1, 2, 20), 0);
    int[][] bad = {
      {2, 0, 1}, {-1, 0, 1}, {0, -1, 1}, {0, 4, 1}, {0, 0, 0}, {0, 0, 10}, {0, 1, -1}, {0, 1, 2}, {0, 2, -1},
      {0, 2, 21}, {0, 3, -1}, {0, 3, 10}, {MIN, 0, 1}, {0, MAX, 1}, {0, 0, MIN}
    };
    for (int[] b : bad) {
      due("set(" + b[0] + ", " + b[1] + ", " + b[2] + ")", x.set(b[0], b[1], b[2]), AntsTurn.BAD);
    }
    due("told(0, 0) is kept", x.told(0, 0), 2);
    due("what is set is gone by: of(1, 0)", x.of(1, 0), 42);
    x.set(1, 2, 0);
    due("what is set is gone by: of(1, 0)", x.of(1, 0), 2);
    due("last(1)", x.last(1), 16);
    x.set(0, 0, 9);
    due("last(1) behind set", x.last(1), 2);
  }

  private static void told() {
    int[][] weights = {{0, 5, 9}, {1, 6, 10}, {0, 2, 4}, {2, 12, 20}, {3, 5, 7}, {0, 7, 13}};
    int[] numbers = {0, 5, 9};
    for (int kind = 0; kind < 6; kind++) {
      for (int k = 0; k < numbers.length; k++) {
        AntsTurn x = new AntsTurn();
        x.ant(kind, 310 + numbers[k], 4);
        due("kind " + kind + ": told(0, 4)", x.told(0, 4), kind);
        due("kind " + kind + ", number " + numbers[k] + ": told(0, 5)", x.told(0, 5), weights[kind][k]);
        due("told(0, 0)", x.told(0, 0), 3);
        due("told(0, 1)", x.told(0, 1), 1);
        due("told(0, 2)", x.told(0, 2), 4);
        due("told(0, 3)", x.told(0, 3), numbers[k]);
      }
    }
    AntsTurn x = pair();
    due("told(2, 0)", x.told(2, 0), AntsTurn.BAD);
    due("told(-1, 0)", x.told(-1, 0), AntsTurn.BAD);
    due("told(0, -1)", x.told(0, -1), AntsTurn.BAD);
    due("told(0, 6)", x.told(0, 6), AntsTurn.BAD);
    due("told(MAX, 0)", x.told(MAX, 0), AntsTurn.BAD);
  }

  private static void feed() {
    AntsTurn x = new AntsTurn();
    due("feed(-1)", x.feed(-1), AntsTurn.BAD);
    due("feed(256)", x.feed(256), AntsTurn.BAD);
    due("feed(MIN)", x.feed(MIN), AntsTurn.BAD);
    due("feed(0)", x.feed(0), 1);
    due("feed(255)", x.feed(255), 2);
    for (int i = 3; i <= 160; i++) {
      due("feed(32)", x.feed(32), i);
    }
    due("feed of a full tape", x.feed(32), AntsTurn.FULL);
    due("feed(256) of a full tape", x.feed(256), AntsTurn.BAD);
    due("count(4)", x.count(4), 160);
    due("text()", x.text(), -100);
    due("count(4)", x.count(4), 0);
    due("feed(116)", x.feed(116), 1);
  }

  private static void text() {
    AntsTurn x = new AntsTurn();
    String good = "turn 1 ; stay 0 ; heat 0 ;";
    due("a faulty text", text(x, "turn 1"), -106);
    due("the tape behind a fault", x.count(4), 0);
    for (int n = 1; n < 6; n++) {
      due("text " + n, text(x, good), n);
      due("the tape behind a text", x.count(4), 0);
      due("count(3)", x.count(3), n + 1);
    }
    due("a seventh text", text(x, good), AntsTurn.FULL);
    due("the tape stays", x.count(4), good.length());
    due("a faulty seventh text", text(x, "?"), AntsTurn.FULL);
    due("the tape stays", x.count(4), good.length() + 1);
    due("count(3)", x.count(3), 6);
    StringBuilder wide = new StringBuilder(good);
    while (wide.length() < 160) {
      wide.insert(4, wide.length() % 2 == 0 ? ' ' : '\n');
    }
    due("a text of 160 bytes", text(new AntsTurn(), wide.toString()), 1);
    StringBuilder sum = new StringBuilder("turn 1;stay 0;heat 1");
    while (sum.length() < 157) {
      sum.append("+1");
    }
    due("a text of 158 bytes that ends too early", text(new AntsTurn(), sum.toString()), -258);
    due("160 tokens", text(new AntsTurn(), "(".repeat(160)), -100);
    due("157 tokens", text(new AntsTurn(), "turn" + "(".repeat(156)), -109);
    AntsTurn again = pair();
    for (int n = 1; n < 6; n++) {
      due("a faulty one of many tokens", text(again, sum.toString()), -258);
      due("text " + n + " of many tokens", text(again, sum + ";"), n);
      again.force(n);
      due("what it comes to", again.of(0, 4), 70);
    }
  }

  private static void faults() {
    Object[][] faults = {
      {"", 0}, {"   ", 3}, {"turn", 4}, {"turn ", 5}, {"turn 1", 6}, {"turn 1 ;", 8}, {"turn 1;stay 0;heat 0", 20},
      {"turn 1;stay 0;heat 0 \n", 22}, {"turn 1;stay 0;heat 0;;", 21}, {"turn 1;stay 0;heat 0; 1", 22},
      {"turn 1;stay 0;heat 0; turn", 22}, {"turn 1;stay 0;heat 0;?", 21}, {"turn 1;stay 0;heat 0; x", 22}, {"stay 1", 0}, {"  heat 1", 2}, {"turn 1;turn 1", 7},
      {"turn 1;stay 0;stay 0", 14}, {"1", 0}, {";", 0}, {"turns 1", 0}, {" tur", 1}, {"TURN", 0}, {"turnmeets", 0},
      {"turn ant", 5}, {"turn meet", 5}, {"turn placed", 5}, {"turn ;", 5}, {"turn turn", 5}, {"turn or", 5},
      {"turn heat", 5}, {"turn 12345", 5}, {"turn 00001", 5}, {"turn 1 ?", 7}, {"turn 1\t;", 6}, {"turn 1\r;", 6},
      {"turn \u00e9", 5}, {"turn \u0000", 5}, {"turn 1 2", 7}, {"turn 1 meets", 7}, {"turn 1 (", 7}, {"turn 1 not 1", 7},
      {"turn 1 )", 7}, {"turn (1;", 7}, {"turn (1 stay", 8}, {"turn ()", 6}, {"turn (1))", 8}, {"turn 1 +;", 8},
      {"turn + 1", 5}, {"turn * 1", 5}, {"turn 1 + + 1", 9}, {"turn 1 * * 1", 9}, {"turn 1 - * 1", 9},
      {"turn 1 < 2 < 3", 11}, {"turn 1 = 2 < 3", 11}, {"turn 1 < 2 = 3", 11}, {"turn 1 = 2 = 3", 11},
      {"turn 1 < < 2", 9}, {"turn < 2", 5}, {"turn 1 < not 2", 9}, {"turn 1 + not 2", 9}, {"turn - not 2", 7},
      {"turn 1 * not 2", 9}, {"turn 1 and or 2", 11}, {"turn 1 or and 2", 10}, {"turn not ;", 9}, {"turn not", 8},
      {"turn -", 6}, {"turn (", 6}, {"turn not and 1", 9}, {"turn 1 > 2", 7}, {"turn 1 , 2", 7}, {"turn 1a", 6},
      {"turn a1", 5}, {"turn 1 ? 12345", 7}, {"turn ; ?", 5}
    };
    for (Object[] f : faults) {
      int place = (Integer) f[1];
      due("text of '" + f[0] + "'", text(new AntsTurn(), (String) f[0]), -100 - place);
    }
    String[] good = {
      "turn1;stay0;heat0;", "turn\n1 ;stay 0\n; heat others ;\n ", "turn meets+place*left-beat;stay others;heat number;",
      "turn 9999;stay 0012;heat 1or2;", "turn not not 1 and not 2;stay 1=2 or 3<4;heat(1<2)<(3=4);",
      "turn 1<2 and 3<4 or 5=6;stay --1;heat 1--1;", "turn 1--(not 2);stay-meets;heat(((((1)))));"
    };
    for (String g : good) {
      due("text of '" + g + "'", text(new AntsTurn(), g), 1);
    }
  }

  private static void depths() {
    String rest = ";stay 0;heat 0;";
    Object[][] deep = {
      {"turn (((((1)))))", 0}, {"turn ((((((1", 10}, {"turn -----1", 0}, {"turn ------1", 10},
      {"turn not not not not not 1", 0}, {"turn not not not not not not 1", 25}, {"turn (not -(not 1))", 0},
      {"turn (not -(not -1))", 16}, {"turn (not -(1)-(not 1))", 0}, {"turn (not -(not (1)))", 16},
      {"turn ((((not not 1", 13}, {"turn ((((-1)-1)-1)-1)-1", 0}, {"turn -1- -1- -1- -1- -1- -1- -1", 0},
      {"turn not 1 and not 1 or not 1 and not 1 or not 1 and not 1", 0}, {"turn (1)+(1)+(1)+(1)+(1)+(1)+(1)", 0},
      {"turn (((((1-1)))))", 0}, {"turn (((((1)-1)))+(((1))))", 0}, {"turn (((((1)-(-1)))))", 14}, {"turn (((((1)-(1)))))", 0},
      {"turn (((((-1)))))", 10}, {"turn (((((1))+((-1", 16}, {"turn (((((1))+(-1))))", 0}, {"turn not 1+((((1))))", 0}, {"turn not 1+(((((1", 15},
      {"turn -1*(((((1)))))", 0}, {"turn not -1<-1 and -(((1)))", 0}, {"turn not not not not -1 < (-1)", 27},
      {"turn not not not not -1 < (1)", 0}
    };
    for (Object[] d : deep) {
      int place = (Integer) d[1];
      String letters = (String) d[0];
      int got = text(new AntsTurn(), place == 0 ? letters + rest : letters);
      due("text of '" + letters + "'", got, place == 0 ? 1 : -100 - place);
    }
  }

  private static void force() {
    AntsTurn x = pair();
    due("force(1)", x.force(1), AntsTurn.BAD);
    due("force(-1)", x.force(-1), AntsTurn.BAD);
    due("force(0)", x.force(0), 0);
    text(x, "turn 0;stay 0;heat 7;");
    due("a text alone is not the rule", x.of(0, 4), 1);
    due("force(1)", x.force(1), 0);
    due("count(5)", x.count(5), 1);
    due("of(0, 4)", x.of(0, 4), 7);
    due("of(0, 3)", x.of(0, 3), 0);
    due("force(2)", x.force(2), AntsTurn.BAD);
    due("soonest(1)", x.soonest(1), 8);
    due("longest(0, 1)", x.longest(0, 1), 16);
    due("force(0)", x.force(0), 1);
    due("of(0, 3)", x.of(0, 3), 1);
  }

  private static void worths() {
    Object[][] worths = {
      {"2+3*4", 14}, {"(2+3)*4", 20}, {"10-3-2", 5}, {"10-(3-2)", 9}, {"-3+5", 2}, {"-3*-4", 12}, {"--7", 7},
      {"not 0", 1}, {"not 5", 0}, {"not not 5", 1}, {"2 or 0", 1}, {"0 or 0", 0}, {"2 and 3", 1}, {"2 and 0", 0},
      {"1 or 0 and 0", 1}, {"(1 or 0) and 0", 0}, {"not 1 or 1", 1}, {"not (1 or 1)", 0}, {"not 1<2", 0},
      {"not 2<1", 1}, {"1<2", 1}, {"2<2", 0}, {"2=2", 1}, {"2=3", 0}, {"5=2+3", 1}, {"1+1<1+2", 1}, {"-1<0", 1},
      {"99", 99}, {"100", 99}, {"9999", 99}, {"-1", 0}, {"0-9999", 0}, {"0098", 98},
      {"256*256*256*256+7", 7}, {"9999*9999*9999<0", 1}, {"(128*256*256*256-1)<0", 0}, {"128*256*256*256<0", 1},
      {"-(128*256*256*256)<0", 1}, {"-1 and 1", 1}, {"-1 or 0", 1}, {"(1<2)+(2<3)+(3<4)", 3}, {"7*8-6*9", 2},
      {"2*3*4-1*2", 22}, {"20-4*3+1", 9}, {"3 and 2 and 1", 1}, {"0 or 0 or 8", 1}, {"not 0 and 0", 0}
    };
    for (Object[] w : worths) {
      AntsTurn x = pair();
      rule(x, "turn 1;stay 0;heat " + w[0] + ";");
      due("heat " + w[0], x.of(0, 4), (Integer) w[1]);
    }
  }

  private static void names() {
    int[][] wants = {{0, 0}, {6, 6}, {0, 1}, {2, 2}, {1, 1}, {0, 1}};
    String[] names = {"meets", "place", "left", "beat", "others", "number"};
    for (int k = 0; k < names.length; k++) {
      AntsTurn x = pair();
      rule(x, "turn 1;stay 0;heat " + names[k] + ";");
      due(names[k] + " of ant 0", x.of(0, 4), wants[k][0]);
      due(names[k] + " of ant 1", x.of(1, 4), wants[k][1]);
    }
    AntsTurn ring = pair();
    ring.plank(1, 1);
    rule(ring, "turn 1;stay 0;heat meets;");
    due("meets, 20 times", ring.of(0, 4), 190);
    AntsTurn turned = pair();
    rule(turned, "turn left;stay 0;heat 0;");
    due("turn left: of(0, 3)", turned.of(0, 3), 0);
    due("turn left: of(1, 3)", turned.of(1, 3), 1);
    due("turn left: of(1, 0)", turned.of(1, 0), 16);
    AntsTurn negative = pair();
    rule(negative, "turn -1;stay 0;heat 0;");
    due("turn -1: of(0, 3)", negative.of(0, 3), 1);
    due("others of three", trio().of(2, 4), 2);
  }

  private static void of() {
    AntsTurn x = trio();
    int[][] wants = {{8, 0, 1, 1, 2}, {8, 0, 1, 1, 2}, {16, 1, 1, 1, 2}};
    for (int ant = 0; ant < 3; ant++) {
      for (int what = 0; what < 5; what++) {
        due("of(" + ant + ", " + what + ")", x.of(ant, what), wants[ant][what]);
      }
    }
    due("of(3, 0)", x.of(3, 0), NO_SUCH);
    due("of(-1, 0)", x.of(-1, 0), NO_SUCH);
    due("of(0, -1)", x.of(0, -1), NO_SUCH);
    due("of(0, 5)", x.of(0, 5), NO_SUCH);
    due("of(MAX, MIN)", x.of(MAX, MIN), NO_SUCH);
    x.plank(1, 1);
    due("on a ring: of(0, 0)", x.of(0, 0), AntsTurn.NONE);
    due("on a ring: of(0, 1)", x.of(0, 1), AntsTurn.NONE);
    AntsTurn lefts = new AntsTurn();
    lefts.ant(0, 410, 0);
    lefts.ant(0, 410, 0);
    lefts.ant(0, 200, 0);
    due("two to the left: of(2, 4)", lefts.of(2, 4), 2);
    due("two to the left: of(0, 0)", lefts.of(0, 0), 16);
    due("two to the left: of(2, 0)", lefts.of(2, 0), 8);
    due("two to the left: through(0, 1)", lefts.through(0, 1), 2);
    due("two to the left: carried(2, 0)", lefts.carried(2, 0), 0);
    due("two to the left: carried(1, 0)", lefts.carried(1, 0), 2);
    AntsTurn late = new AntsTurn();
    late.plank(0, 2);
    late.ant(0, 100, 0);
    late.ant(0, 110, 20);
    due("put on in beat 40: of(1, 0)", late.of(1, 0), 42);
    due("put on in beat 40: of(1, 1)", late.of(1, 1), 0);
    AntsTurn same = new AntsTurn();
    same.ant(0, 500, 0);
    same.ant(0, 510, 0);
    due("they meet as they are put on: of(0, 0)", same.of(0, 0), 10);
    due("they meet as they are put on: of(0, 1)", same.of(0, 1), 0);
    due("they meet as they are put on: of(0, 2)", same.of(0, 2), 1);
  }

  /** On a ring of 20 places two meet every 10 beats, and the other one turns twice only. */
  private static void kindsThatMeet() {
    int[][] wants = {{3, 3}, {1, 0}, {3, 3}, {20, 2}, {4, 3}, {3, 3}};
    for (int kind = 0; kind < 6; kind++) {
      AntsTurn x = new AntsTurn();
      x.plank(1, 1);
      x.ant(kind, 202, 0);
      x.ant(0, 410, 0);
      rule(x, "turn number=0 or meets<2;stay 0;heat 0;");
      due("kind " + kind + " met", x.of(0, 2), wants[kind][0]);
      due("kind " + kind + " turned", x.of(0, 3), wants[kind][1]);
    }
  }

  private static void kindsAtEnds() {
    int[][] wants = {
      {0, 0, 2, 1, 0}, {0, 9, 2, 1, 0}, {1, 9, 2, 1, 0}, {3, 9, 2, 1, 0}, {2, 0, 2, 1, 0}, {2, 1, 6, 0, 1},
      {2, 2, 10, 1, 2}, {2, 9, 38, 0, 9}, {4, 0, 6, 0, 1}, {4, 1, 6, 0, 1}, {4, 3, 14, 0, 3}, {5, 0, 2, 1, 0},
      {5, 1, 6, 0, 1}, {5, 9, 6, 0, 1}
    };
    for (int[] w : wants) {
      AntsTurn x = single(w[0], w[1]);
      String of = "kind " + w[0] + ", number " + w[1];
      due(of + " is off", x.of(0, 0), w[2]);
      due(of + " is off at", x.of(0, 1), w[3]);
      due(of + " turned", x.of(0, 3), w[4]);
      due(of + " met", x.of(0, 2), 0);
    }
  }

  private static void textsAtEnds() {
    AntsTurn x = single(0, 0);
    rule(x, "turn 1;stay beat<10;heat 0;");
    due("stay beat<10: of(0, 0)", x.of(0, 0), 10);
    due("stay beat<10: of(0, 3)", x.of(0, 3), 2);
    rule(x, "turn 1;stay place=4;heat 0;");
    due("stay place=4: of(0, 0)", x.of(0, 0), 6);
    rule(x, "turn 1;stay -(1-left);heat 0;");
    due("stay -(1-left): of(0, 0)", x.of(0, 0), 6);
    rule(x, "turn 1;stay 1;heat 0;");
    due("stay 1: of(0, 0)", x.of(0, 0), AntsTurn.NONE);
    due("stay 1: of(0, 3)", x.of(0, 3), 50);
    AntsTurn shy = single(2, 1);
    rule(shy, "turn 1;stay beat=6;heat 0;");
    due("what stays by its text counts as turned at an end: of(0, 0)", shy.of(0, 0), 10);
    shy = single(2, 2);
    rule(shy, "turn 1;stay beat=2;heat 0;");
    due("what stays by both turns once: of(0, 3)", shy.of(0, 3), 2);
    AntsTurn edgy = single(5, 9);
    rule(edgy, "turn 1;stay beat=6;heat 0;");
    due("edgy, even again: of(0, 0)", edgy.of(0, 0), 14);
    AntsTurn proud = single(4, 0);
    rule(proud, "turn 1;stay beat=2;heat 0;");
    due("proud, once: of(0, 0)", proud.of(0, 0), 6);
    AntsTurn two = new AntsTurn();
    two.ant(0, 800, 0);
    two.ant(0, 800, 0);
    rule(two, "turn 1;stay others=1 and number;heat 0;");
    due("others at an end, as all is then: of(0, 0)", two.of(0, 0), 4);
    due("others at an end, as all is then: of(1, 0)", two.of(1, 0), 24);
    AntsTurn met = pair();
    rule(met, "turn 1;stay meets;heat 0;");
    due("stay meets: of(0, 0)", met.of(0, 0), AntsTurn.NONE);
    met.set(1, 1, 0);
    due("stay meets, none met: of(0, 0)", met.of(0, 0), 16);
  }

  private static void at() {
    AntsTurn x = pair();
    x.ant(0, 510, 3);
    int[][] wants = {
      {0, 0, 4, 0}, {0, 1, 5, 0}, {0, 2, 6, 1}, {0, 3, 5, 1}, {0, 7, 1, 1}, {0, 8, -1, -1}, {0, 200, -1, -1},
      {1, 0, 8, 1}, {1, 2, 6, 0}, {2, 0, -1, -1}, {2, 5, -1, -1}, {2, 6, 10, 0}, {2, 7, 11, 0}
    };
    for (int[] w : wants) {
      due("at(" + w[0] + ", " + w[1] + ", 0)", x.at(w[0], w[1], 0), w[2]);
      due("at(" + w[0] + ", " + w[1] + ", 1)", x.at(w[0], w[1], 1), w[3]);
    }
    int[][] bad = {{3, 0, 0}, {-1, 0, 0}, {0, -1, 0}, {0, 201, 0}, {0, 0, -1}, {0, 0, 2}, {MIN, MAX, MIN}};
    for (int[] b : bad) {
      due("at(" + b[0] + ", " + b[1] + ", " + b[2] + ")", x.at(b[0], b[1], b[2]), AntsTurn.BAD);
    }
    AntsTurn ring = new AntsTurn();
    ring.plank(0, 2);
    ring.plank(1, 1);
    ring.ant(0, 100, 0);
    ring.ant(0, 110, 1);
    int[] places = {2, 3, 2, 1, 0, 3, 2};
    for (int beat = 0; beat < 3; beat++) {
      due("on a ring: at(0, " + beat + ", 0)", ring.at(0, beat, 0), new int[] {2, 3, 0}[beat]);
    }
    ring.set(0, 1, 1);
    ring.set(1, 1, 1);
    for (int beat = 2; beat < 7; beat++) {
      due("on a ring: at(1, " + beat + ", 0)", ring.at(1, beat, 0), places[beat]);
    }
    due("on a ring: at(0, 200, 0)", ring.at(0, 200, 0), 2);
    AntsTurn back = single(2, 1);
    due("turned at an end: at(0, 2, 0)", back.at(0, 2, 0), 4);
    due("turned at an end: at(0, 2, 1)", back.at(0, 2, 1), 1);
    due("turned at an end: at(0, 3, 0)", back.at(0, 3, 0), 3);
  }

  private static void last() {
    AntsTurn x = pair();
    due("last(0)", x.last(0), 1);
    due("last(1)", x.last(1), 16);
    due("last(2)", x.last(2), AntsTurn.BAD);
    due("last(-1)", x.last(-1), AntsTurn.BAD);
    x.ant(0, 200, 0);
    x.set(1, 1, 0);
    due("of like ones the first: last(0)", x.last(0), 0);
    x.ant(2, 509, 20);
    x.plank(0, 40);
    due("not all are off: last(0)", x.last(0), AntsTurn.NONE);
    due("not all are off: last(1)", x.last(1), AntsTurn.NONE);
    due("without ants: last(0)", new AntsTurn().last(0), AntsTurn.NONE);
    due("without ants: last(1)", new AntsTurn().last(1), AntsTurn.NONE);
  }

  private static void order() {
    AntsTurn x = new AntsTurn();
    due("without ants: order(0)", x.order(0), 0);
    x.ant(0, 900, 0);
    x.ant(0, 500, 0);
    x.ant(0, 500, 0);
    x.ant(0, 100, 1);
    x.ant(0, 910, 0);
    due("order(0)", x.order(0), 2315);
    due("order(1)", x.order(1), 2315);
    due("order(2)", x.order(2), 4231);
    due("order(3)", x.order(3), 4231);
    due("order(9)", x.order(9), 2341);
    due("order(17)", x.order(17), 423);
    due("order(18)", x.order(18), 23);
    due("order(20)", x.order(20), 0);
    due("order(200)", x.order(200), 0);
    due("order(-1)", x.order(-1), AntsTurn.BAD);
    due("order(201)", x.order(201), AntsTurn.BAD);
    AntsTurn seven = new AntsTurn();
    for (int i = 0; i < 7; i++) {
      seven.ant(0, 100 * (8 - i), 0);
    }
    due("seven: order(0)", seven.order(0), 7654321);
  }

  private static void tilt() {
    AntsTurn x = new AntsTurn();
    due("without ants: tilt(0)", x.tilt(0), 0);
    x.ant(1, 302, 0);
    x.ant(3, 701, 0);
    x.ant(0, 509, 0);
    x.ant(5, 105, 2);
    due("tilt(0)", x.tilt(0), 3 - 4);
    due("tilt(1)", x.tilt(1), 3 - 4 - 9);
    due("tilt(4)", x.tilt(4), 7 - 4 - 9);
    due("tilt(5)", x.tilt(5), 7 - 3 - 4 - 9);
    due("tilt(6)", x.tilt(6), 7 - 3 - 9);
    due("tilt(-1)", x.tilt(-1), NO_SUCH);
    due("tilt(201)", x.tilt(201), NO_SUCH);
    due("tilt(200)", x.tilt(200), 0);
    x.plank(1, 1);
    due("on a ring: tilt(6)", x.tilt(6), 7 - 3 + 4 - 9);
  }

  private static void through() {
    AntsTurn x = trio();
    due("through(0, 0)", x.through(0, 0), 16);
    due("through(2, 0)", x.through(2, 0), 8);
    due("through(0, 1)", x.through(0, 1), 2);
    due("through(0, 2)", x.through(0, 2), 0);
    due("through(9, 1)", x.through(9, 1), 2);
    due("through(MIN, 2)", x.through(MIN, 2), 0);
    due("through(3, 0)", x.through(3, 0), AntsTurn.BAD);
    due("through(-1, 0)", x.through(-1, 0), AntsTurn.BAD);
    due("through(0, 3)", x.through(0, 3), AntsTurn.BAD);
    due("through(0, -1)", x.through(0, -1), AntsTurn.BAD);
    due("of(0, 0) behind through", x.of(0, 0), 8);
    AntsTurn two = pair();
    due("two: through(0, 2)", two.through(0, 2), 1);
    two.plank(1, 1);
    due("two on a ring: through(0, 0)", two.through(0, 0), AntsTurn.NONE);
    due("two on a ring: through(0, 1)", two.through(0, 1), 20);
    due("two on a ring: through(0, 2)", two.through(0, 2), 1);
    AntsTurn none = new AntsTurn();
    due("without ants: through(0, 0)", none.through(0, 0), AntsTurn.BAD);
    due("without ants: through(0, 1)", none.through(0, 1), 0);
    due("without ants: through(0, 2)", none.through(0, 2), 1);
    AntsTurn shy = new AntsTurn();
    shy.ant(2, 201, 0);
    shy.ant(0, 410, 0);
    due("ends as ever: through(0, 0)", shy.through(0, 0), 36);
    due("ends as ever: through(0, 2)", shy.through(0, 2), 0);
    AntsTurn met = pair();
    rule(met, "turn 1;stay meets=1 and beat<20;heat 0;");
    due("they have met: through(0, 0)", met.through(0, 0), 36);
  }

  private static void soonest() {
    AntsTurn x = pair();
    due("soonest(0)", x.soonest(0), 3);
    due("soonest(1)", x.soonest(1), 8);
    due("soonest(2)", x.soonest(2), AntsTurn.BAD);
    due("soonest(-1)", x.soonest(-1), AntsTurn.BAD);
    due("facings are kept", x.told(0, 1), 0);
    x.set(1, 2, 10);
    due("another start: soonest(1)", x.soonest(1), 28);
    due("of like ones the least: soonest(0)", x.soonest(0), 2);
    AntsTurn middle = new AntsTurn();
    middle.ant(0, 510, 0);
    due("both ways as soon: soonest(0)", middle.soonest(0), 0);
    due("both ways as soon: soonest(1)", middle.soonest(1), 10);
    middle.plank(1, 1);
    due("on a ring: soonest(0)", middle.soonest(0), AntsTurn.NONE);
    due("on a ring: soonest(1)", middle.soonest(1), AntsTurn.NONE);
    due("without ants: soonest(0)", new AntsTurn().soonest(0), AntsTurn.NONE);
    due("without ants: soonest(1)", new AntsTurn().soonest(1), AntsTurn.NONE);
    AntsTurn some = pair();
    rule(some, "turn 1;stay number=0 and not left;heat 0;");
    due("some never are off: soonest(0)", some.soonest(0), 3);
    rule(some, "turn 1;stay number=0 or not left;heat 0;");
    due("none by which all are off: soonest(0)", some.soonest(0), AntsTurn.NONE);
  }

  private static void beLast() {
    AntsTurn x = pair();
    due("beLast(0, 0)", x.beLast(0, 0), 1);
    due("beLast(0, 1)", x.beLast(0, 1), 0);
    due("beLast(1, 0)", x.beLast(1, 0), 3);
    due("beLast(1, 1)", x.beLast(1, 1), 1);
    due("beLast(2, 0)", x.beLast(2, 0), AntsTurn.BAD);
    due("beLast(-1, 0)", x.beLast(-1, 0), AntsTurn.BAD);
    due("beLast(0, 2)", x.beLast(0, 2), AntsTurn.BAD);
    due("beLast(0, -1)", x.beLast(0, -1), AntsTurn.BAD);
    x.set(1, 0, 2);
    due("of like ones the first: beLast(1, 0)", x.beLast(1, 0), 1);
    due("of like ones the first: beLast(0, 0)", x.beLast(0, 0), 3);
    x.set(0, 2, 20);
    due("never: beLast(1, 0)", x.beLast(1, 0), 0);
    due("never: beLast(1, 1)", x.beLast(1, 1), AntsTurn.NONE);
    rule(x, "turn 1;stay number;heat 0;");
    due("not all are off: beLast(0, 0)", x.beLast(0, 0), 0);
  }

  private static void longest() {
    AntsTurn x = pair();
    due("longest(0, 0)", x.longest(0, 0), 0);
    due("longest(0, 1)", x.longest(0, 1), 16);
    due("longest(1, 0)", x.longest(1, 0), 2);
    due("longest(1, 1)", x.longest(1, 1), 16);
    due("longest(2, 0)", x.longest(2, 0), AntsTurn.BAD);
    due("longest(-1, 0)", x.longest(-1, 0), AntsTurn.BAD);
    due("longest(0, 2)", x.longest(0, 2), AntsTurn.BAD);
    due("longest(0, -1)", x.longest(0, -1), AntsTurn.BAD);
    x.set(1, 2, 20);
    due("of like ones the least: longest(0, 0)", x.longest(0, 0), 0);
    rule(x, "turn 1;stay number;heat 0;");
    due("the other one is never off: longest(0, 1)", x.longest(0, 1), 16);
    due("never off: longest(1, 0)", x.longest(1, 0), AntsTurn.NONE);
    due("never off: longest(1, 1)", x.longest(1, 1), AntsTurn.NONE);
    rule(x, "turn 1;stay number=0 and not left and beat<20;heat 0;");
    due("later than the plank is long: longest(0, 1)", x.longest(0, 1), 36);
  }

  private static void fits() {
    AntsTurn x = pair();
    due("a missing sheet", x.fits(0, 0, 0), -11);
    row(x, 0, 0, 4, 12);
    due("fits(0, 0, 0)", x.fits(0, 0, 0), 1);
    due("fits(0, 0, 1)", x.fits(0, 0, 1), 1);
    row(x, 1, 1, 4, 13);
    due("fits(1, 0, 0)", x.fits(1, 0, 0), 0);
    due("fits(1, 0, 1)", x.fits(1, 0, 1), AntsTurn.NONE);
    row(x, 2, 2, 4, 12, 0);
    due("too long: fits(2, 0, 0)", x.fits(2, 0, 0), AntsTurn.BAD);
    row(x, 2, 2, 4);
    due("too short: fits(2, 0, 0)", x.fits(2, 0, 0), AntsTurn.BAD);
    int[][] bad = {{-1, 0, 0}, {4, 0, 0}, {0, -1, 0}, {0, 2, 0}, {0, 0, -1}, {0, 0, 2}, {3, 2, 0}, {3, 0, 2}};
    for (int[] b : bad) {
      due("fits(" + b[0] + ", " + b[1] + ", " + b[2] + ")", x.fits(b[0], b[1], b[2]), AntsTurn.BAD);
    }
    due("fits(3, 1, 0)", x.fits(3, 1, 0), -11);
    x.plank(1, 1);
    row(x, 3, 0, -1, 255);
    due("bytes below 0, on a ring: fits(3, 0, 0)", x.fits(3, 0, 0), 4);
    due("on a ring: fits(3, 0, 1)", x.fits(3, 0, 1), 0);
    row(x, 3, 2, -1, 255);
    due("ints, on a ring: fits(3, 0, 0)", x.fits(3, 0, 0), 0);
    AntsTurn none = new AntsTurn();
    none.sheet(0, 2, 0);
    due("without ants: fits(0, 0, 0)", none.fits(0, 0, 0), 1);
    due("without ants: fits(0, 0, 1)", none.fits(0, 0, 1), 0);
    AntsTurn like = new AntsTurn();
    like.ant(0, 500, 0);
    like.ant(0, 500, 1);
    row(like, 0, 0, 10, 12);
    due("several ways: fits(0, 0, 0)", like.fits(0, 0, 0), 4);
    due("several ways: fits(0, 0, 1)", like.fits(0, 0, 1), 0);
  }

  private static void heard() {
    AntsTurn x = pair();
    row(x, 0, 2, 2);
    due("fits(0, 1, 0)", x.fits(0, 1, 0), 1);
    due("fits(0, 1, 1)", x.fits(0, 1, 1), 2);
    row(x, 0, 2);
    due("nothing heard: fits(0, 1, 0)", x.fits(0, 1, 0), 3);
    due("nothing heard: fits(0, 1, 1)", x.fits(0, 1, 1), 0);
    row(x, 0, 2, 3);
    due("another beat: fits(0, 1, 0)", x.fits(0, 1, 0), 0);
    due("another beat: fits(0, 1, 1)", x.fits(0, 1, 1), AntsTurn.NONE);
    row(x, 0, 2, 2, 2);
    due("one more: fits(0, 1, 0)", x.fits(0, 1, 0), 0);
    x.plank(1, 1);
    int[] beats = new int[20];
    for (int i = 0; i < 20; i++) {
      beats[i] = 2 + 10 * i;
    }
    row(x, 0, 1, beats);
    due("on a ring: fits(0, 1, 0)", x.fits(0, 1, 0), 1);
    due("on a ring: fits(0, 1, 1)", x.fits(0, 1, 1), 2);
    row(x, 0, 1, java.util.Arrays.copyOf(beats, 19));
    due("one fewer: fits(0, 1, 0)", x.fits(0, 1, 0), 0);
    AntsTurn first = new AntsTurn();
    first.ant(0, 500, 0);
    first.ant(0, 500, 0);
    row(first, 0, 2);
    due("nothing heard in beat 0: fits(0, 1, 0)", first.fits(0, 1, 0), 2);
    row(first, 0, 2, 0);
    due("heard in beat 0: fits(0, 1, 0)", first.fits(0, 1, 0), 2);
    due("heard in beat 0: fits(0, 1, 1)", first.fits(0, 1, 1), 1);
    AntsTurn turned = pair();
    turned.ant(0, 810, 0);
    rule(turned, "turn not left;stay 0;heat 0;");
    // Behind beat 2 all go to the left, so that ant 2 meets nobody, whichever way it faces.
    row(turned, 0, 2, 2);
    due("heard as they turn: fits(0, 1, 0)", turned.fits(0, 1, 0), 2);
    due("heard as they turn: fits(0, 1, 1)", turned.fits(0, 1, 1), 2);
    row(turned, 0, 2, 4, 6);
    due("heard as they turn: fits(0, 1, 1)", turned.fits(0, 1, 1), 4);
    AntsTurn lastBeat = pair();
    lastBeat.plank(1, 1);
    lastBeat.set(0, 0, 1);
    lastBeat.set(1, 0, 1);
    int[] all = new int[21];
    for (int i = 0; i < 21; i++) {
      all[i] = 10 * i;
    }
    row(lastBeat, 0, 2, all);
    due("heard in beat 200: fits(0, 1, 0)", lastBeat.fits(0, 1, 0), 2);
    AntsTurn often = single(0, 0);
    often.plank(1, 1);
    often.ant(0, 110, 0);
    int[] forty = new int[40];
    for (int i = 0; i < 40; i++) {
      forty[i] = 2 * i;
    }
    row(often, 3, 0, forty);
    due("more than a sheet can tell: fits(3, 1, 0)", often.fits(3, 1, 0), 0);
    AntsTurn many = new AntsTurn();
    many.ant(0, 200, 0);
    many.ant(0, 410, 0);
    many.ant(0, 600, 0);
    many.ant(0, 810, 0);
    row(many, 1, 0, 2, 6);
    due("two meetings in one beat: fits(1, 1, 0)", many.fits(1, 1, 0), 1);
    due("two meetings in one beat: fits(1, 1, 1)", many.fits(1, 1, 1), 10);
  }

  private static void byThen() {
    AntsTurn x = pair();
    long[][] wants = {{0, 0, 1}, {7, 0, 1}, {8, 1, 4}, {11, 1, 4}, {12, 1, 2}, {15, 1, 2}, {16, 1, 1}, {200, 1, 1}};
    for (long[] w : wants) {
      due("byThen(" + w[0] + ", 0)", x.byThen((int) w[0], 0), w[1]);
      due("byThen(" + w[0] + ", 1)", x.byThen((int) w[0], 1), w[2]);
    }
    due("byThen(-1, 0)", x.byThen(-1, 0), AntsTurn.NO);
    due("byThen(201, 1)", x.byThen(201, 1), AntsTurn.NO);
    due("byThen(0, -1)", x.byThen(0, -1), AntsTurn.NO);
    due("byThen(0, 2)", x.byThen(0, 2), AntsTurn.NO);
    due("without ants: byThen(0, 0)", new AntsTurn().byThen(0, 0), 1);
    due("without ants: byThen(0, 1)", new AntsTurn().byThen(0, 1), 1);
    AntsTurn three = trio();
    due("one of eight: byThen(8, 0)", three.byThen(8, 0), 1);
    due("one of eight: byThen(8, 1)", three.byThen(8, 1), 8);
    AntsTurn left = pair();
    rule(left, "turn not left;stay 0;heat 0;");
    due("three of four: byThen(12, 0)", left.byThen(12, 0), 3);
    due("three of four: byThen(12, 1)", left.byThen(12, 1), 4);
    rule(three, "turn 1;stay not left and number;heat 0;");
    due("some never: byThen(200, 0)", three.byThen(200, 0), 1);
    three.plank(1, 1);
    due("on a ring: byThen(200, 0)", three.byThen(200, 0), 0);
    due("on a ring: byThen(200, 1)", three.byThen(200, 1), 1);
  }

  private static void carried() {
    AntsTurn x = trio();
    int[][] wants = {{0, 2, 16}, {1, 2, 16}, {2, 0, 8}};
    for (int[] w : wants) {
      due("carried(" + w[0] + ", 0)", x.carried(w[0], 0), w[1]);
      due("carried(" + w[0] + ", 1)", x.carried(w[0], 1), w[2]);
    }
    due("carried(3, 0)", x.carried(3, 0), AntsTurn.BAD);
    due("carried(-1, 0)", x.carried(-1, 0), AntsTurn.BAD);
    due("carried(0, 2)", x.carried(0, 2), AntsTurn.BAD);
    due("carried(0, -1)", x.carried(0, -1), AntsTurn.BAD);
    AntsTurn alone = pair();
    alone.set(1, 1, 0);
    due("nobody met: carried(0, 0)", alone.carried(0, 0), 0);
    due("nobody met: carried(0, 1)", alone.carried(0, 1), 16);
    AntsTurn ring = pair();
    ring.plank(1, 1);
    due("on a ring, 20 times: carried(0, 0)", ring.carried(0, 0), 0);
    due("on a ring: carried(0, 1)", ring.carried(0, 1), AntsTurn.NONE);
    ring.set(1, 2, 5);
    due("on a ring, 19 times: carried(0, 0)", ring.carried(0, 0), 1);
    AntsTurn both = pair();
    both.ant(0, 610, 0);
    both.ant(0, 100, 0);
    // It goes right all the way, as if they went through one another: ant 3 has it at last of those to the right.
    due("from one to the next: carried(0, 0)", both.carried(0, 0), 2);
    due("from one to the next: carried(0, 1)", both.carried(0, 1), 16);
    AntsTurn off = new AntsTurn();
    off.ant(0, 910, 0);
    off.ant(0, 800, 0);
    off.ant(0, 510, 4);
    due("not behind its being off: carried(1, 0)", off.carried(1, 0), 0);
    due("not behind its being off: carried(1, 1)", off.carried(1, 1), 4);
  }

  private static void round() {
    AntsTurn x = pair();
    due("no ring: round()", x.round(), AntsTurn.STATE);
    x.plank(1, 1);
    due("two that meet: round()", x.round(), 20);
    x.set(1, 1, 0);
    due("one way round: round()", x.round(), 20);
    x.plank(0, 40);
    due("a long ring: round()", x.round(), 80);
    AntsTurn none = new AntsTurn();
    none.plank(1, 1);
    due("without ants: round()", none.round(), 1);
    AntsTurn late = new AntsTurn();
    late.plank(1, 1);
    late.plank(0, 2);
    late.ant(0, 100, 20);
    due("put on in beat 40: round()", late.round(), 4);
    AntsTurn three = new AntsTurn();
    three.plank(0, 40);
    three.plank(1, 1);
    three.ant(0, 100, 0);
    three.ant(0, 500, 0);
    three.ant(0, 1410, 0);
    due("three of 80 places, back in 240: round()", three.round(), AntsTurn.NONE);
    three.set(2, 1, 0);
    due("three that don't meet: round()", three.round(), 80);
    three.ant(0, 2510, 0);
    due("three that meet one, back in 160: round()", three.round(), 160);
  }

  private static void drawn() {
    AntsTurn x = pair();
    int[] seeds = {-5, -4, -3, -2, 0, 1, 5};
    int[] wants = {16, 8, 12, 16, 16, 8, 16};
    for (int k = 0; k < seeds.length; k++) {
      due("drawn(" + seeds[k] + ")", x.drawn(seeds[k]), wants[k]);
    }
    due("facings are kept", x.told(0, 1), 0);
    x.plank(1, 1);
    due("on a ring: drawn(1)", x.drawn(1), AntsTurn.NONE);
    due("without ants: drawn(1)", new AntsTurn().drawn(1), AntsTurn.NONE);
    AntsTurn seven = new AntsTurn();
    for (int i = 0; i < 7; i++) {
      seven.ant(1, 100, i);
    }
    // Seed 9 draws the way 8 of seven ants: ant 3 alone faces left, ant 6 goes right, from beat 12.
    due("seven: drawn(9)", seven.drawn(9), 30);
    // Seed -5 draws the way 120: ants 3 to 6 face left, ant 2 goes right, from beat 4.
    due("seven: drawn(-5)", seven.drawn(-5), 22);
  }

  private static void imageAndBack() {
    AntsTurn x = pair();
    due("back()", x.back(), AntsTurn.STATE);
    rule(x, "turn 0;stay 0;heat 3;");
    due("image()", x.image(), 2);
    x.feed(65);
    x.sheet(0, 2, 1);
    x.set(0, 0, 9);
    x.set(0, 1, 1);
    x.set(0, 2, 7);
    x.set(0, 3, 8);
    x.ant(3, 505, 1);
    x.plank(0, 30);
    x.plank(1, 1);
    x.force(0);
    due("of(0, 0) ahead of back", x.of(0, 0), AntsTurn.NONE);
    due("back()", x.back(), 2);
    int[] counts = {2, 10, 0, 2, 1, 1};
    for (int what = 0; what < counts.length; what++) {
      due("behind back: count(" + what + ")", x.count(what), counts[what]);
    }
    int[] traits = {2, 0, 0, 0};
    for (int what = 0; what < traits.length; what++) {
      due("behind back: told(0, " + what + ")", x.told(0, what), traits[what]);
    }
    due("sheets stay: cell(0, 0, 5)", x.cell(0, 0, 5), 1);
    due("of(0, 0) behind back", x.of(0, 0), 16);
    due("of(0, 4) behind back", x.of(0, 4), 3);
    due("an ant that came goes: told(2, 0)", x.told(2, 0), AntsTurn.BAD);
    due("another one comes: ant(1, 300, 0)", x.ant(1, 300, 0), 2);
    due("another one comes: told(2, 4)", x.told(2, 4), 1);
    x.set(1, 3, 4);
    due("back() once more", x.back(), 2);
    due("told(1, 3)", x.told(1, 3), 0);
    x.ant(5, 300, 0);
    due("image() of three", x.image(), 3);
    x.set(2, 3, 2);
    due("back() to three", x.back(), 3);
    due("told(2, 3)", x.told(2, 3), 0);
    due("told(2, 4)", x.told(2, 4), 5);
    x.plank(1, 1);
    x.image();
    x.plank(1, 0);
    x.back();
    due("a ring is kept: count(2)", x.count(2), 1);
    AntsTurn none = new AntsTurn();
    due("image() without ants", none.image(), 0);
    none.ant(0, 100, 0);
    due("back() without ants", none.back(), 0);
    due("count(0)", none.count(0), 0);
  }

  private static void count() {
    AntsTurn x = trio();
    x.plank(0, 12);
    x.plank(1, 1);
    rule(x, "turn 1;stay 0;heat 0;");
    x.feed(1);
    x.feed(2);
    int[] wants = {3, 12, 1, 2, 2, 1};
    for (int what = 0; what < wants.length; what++) {
      due("count(" + what + ")", x.count(what), wants[what]);
    }
    due("count(-1)", x.count(-1), AntsTurn.BAD);
    due("count(6)", x.count(6), AntsTurn.BAD);
    due("count(MIN)", x.count(MIN), AntsTurn.BAD);
  }

  private static void sheet() {
    AntsTurn x = new AntsTurn();
    int[][] bad = {{-1, 0, 1}, {4, 0, 1}, {0, -2, 1}, {0, 3, 1}, {0, 0, 41}, {0, 2, MAX}, {4, 0, -1}, {0, 3, -1}};
    for (int[] b : bad) {
      due("sheet(" + b[0] + ", " + b[1] + ", " + b[2] + ")", x.sheet(b[0], b[1], b[2]), AntsTurn.BAD);
    }
    due("sheet(0, 0, -1)", x.sheet(0, 0, -1), -14);
    due("sheet(0, 2, MIN)", x.sheet(0, 2, MIN), -14);
    due("it is missing still: cell(0, 0, 0)", x.cell(0, 0, 0), -11);
    due("sheet(3, 2, 40)", x.sheet(3, 2, 40), 1);
    due("cell(3, 39, 1)", x.cell(3, 39, 1), 1);
    due("cell(3, 40, 1)", x.cell(3, 40, 1), -12);
    due("sheet(3, 1, 0)", x.sheet(3, 1, 0), 1);
    due("cell(3, 0, 1)", x.cell(3, 0, 1), -12);
    due("sheet(3, -1, 99)", x.sheet(3, -1, 99), 1);
    due("cell(3, 0, 1)", x.cell(3, 0, 1), -11);
    due("sheet(2, -1, -5)", x.sheet(2, -1, -5), 1);
    AntsTurn anew = new AntsTurn();
    row(anew, 0, 2, 1, 203, 4);
    due("sheet(0, 2, 3)", anew.sheet(0, 2, 3), 1);
    row(anew, 1, 2, 0, 100, 0);
    due("all 0: ants(0, 2, 0, 1)", anew.ants(0, 2, 0, 1), 0);
    due("a refusal changes nothing: sheet(1, 0, 41)", anew.sheet(1, 0, 41), AntsTurn.BAD);
    due("a refusal changes nothing: sheet(1, 0, -1)", anew.sheet(1, 0, -1), -14);
    due("a refusal changes nothing: ants(1, 2, 0, 1)", anew.ants(1, 2, 0, 1), 1);
  }

  private static void cell() {
    AntsTurn x = new AntsTurn();
    due("cell(-1, 0, 0)", x.cell(-1, 0, 0), AntsTurn.BAD);
    due("cell(4, 0, 0)", x.cell(4, 0, 0), AntsTurn.BAD);
    due("cell(0, 0, 0)", x.cell(0, 0, 0), -11);
    due("cell(0, -1, 0)", x.cell(0, -1, 0), -11);
    x.sheet(0, 0, 3);
    due("cell(0, 3, 0)", x.cell(0, 3, 0), -12);
    due("cell(0, -1, 0)", x.cell(0, -1, 0), -12);
    due("cell(0, MIN, 0)", x.cell(0, MIN, 0), -12);
    due("cell(0, 0, 256)", x.cell(0, 0, 256), 1);
    x.cell(0, 1, 256 * 9 + 100);
    x.cell(0, 2, -256 + 20);
    due("bytes: ants(0, 0, 0, 1)", x.ants(0, 0, 0, 1), 1);
    due("bytes: told(0, 0)", x.told(0, 0), 1);
    due("bytes: told(0, 2)", x.told(0, 2), 20);
    x.cell(0, 1, 200);
    due("bytes have a sign: ants(0, 0, 0, 1)", x.ants(0, 0, 0, 1), 0);
    row(x, 1, 1, 65536 * 3 + 4, 65536 + 919, 65536);
    due("shorts: ants(1, 1, 0, 1)", x.ants(1, 1, 0, 1), 1);
    due("shorts: told(1, 4)", x.told(1, 4), 4);
    due("shorts: told(1, 0)", x.told(1, 0), 9);
    row(x, 2, 2, 0, 65536 + 919, 0);
    due("ints: ants(2, 2, 0, 1)", x.ants(2, 2, 0, 1), 0);
    AntsTurn y = pair();
    y.plank(1, 1);
    row(y, 0, 1, 65535, -1);
    due("shorts have a sign: fits(0, 0, 0)", y.fits(0, 0, 0), 4);
  }

  private static void copy() {
    AntsTurn x = new AntsTurn();
    row(x, 0, 2, 10, 11, 12, 13, 14);
    x.sheet(1, 2, 3);
    x.sheet(2, 1, 5);
    due("copy(-1, 0, 0, 0, 0)", x.copy(-1, 0, 0, 0, 0), AntsTurn.BAD);
    due("copy(0, 0, 4, 0, 0)", x.copy(0, 0, 4, 0, 0), AntsTurn.BAD);
    due("copy(3, 0, 4, 0, 0)", x.copy(3, 0, 4, 0, 0), AntsTurn.BAD);
    due("copy(3, 0, 0, 0, 0)", x.copy(3, 0, 0, 0, 0), -11);
    due("copy(0, 0, 3, 0, 0)", x.copy(0, 0, 3, 0, 0), -11);
    due("copy(3, -1, 0, 0, -1)", x.copy(3, -1, 0, 0, -1), -11);
    due("copy(0, 0, 2, 0, 1)", x.copy(0, 0, 2, 0, 1), -13);
    due("copy(0, -1, 2, 0, -1)", x.copy(0, -1, 2, 0, -1), -13);
    int[][] outside = {
      {0, 0, 1, 0, 4}, {0, 3, 1, 0, 3}, {0, 0, 1, 1, 3}, {0, -1, 1, 0, 1}, {0, 0, 1, -1, 1}, {0, 0, 1, 0, -1},
      {0, 6, 1, 0, 0}, {0, 0, 1, 4, 0}, {0, MAX, 1, 0, 1}, {0, 1, 1, 0, MAX}, {0, 0, 1, MAX, MAX}, {0, 0, 0, 0, MIN}
    };
    for (int[] o : outside) {
      String call = "copy(" + o[0] + ", " + o[1] + ", " + o[2] + ", " + o[3] + ", " + o[4] + ")";
      due(call, x.copy(o[0], o[1], o[2], o[3], o[4]), -12);
    }
    due("copy(0, 5, 1, 3, 0)", x.copy(0, 5, 1, 3, 0), 0);
    due("copy(0, 0, 0, 5, 0)", x.copy(0, 0, 0, 5, 0), 0);
    AntsTurn y = pair();
    y.ant(0, 600, 0);
    row(y, 0, 0, 99, 8, 16, 8, 99);
    y.sheet(1, 0, 3);
    due("copy(0, 1, 1, 0, 3)", y.copy(0, 1, 1, 0, 3), 3);
    due("what came: fits(1, 0, 0)", y.fits(1, 0, 0), 1);
    due("what came: fits(1, 0, 1)", y.fits(1, 0, 1), 2);
    row(y, 2, 0, 8, 16, 8, 0);
    due("copy(2, 0, 2, 1, 3)", y.copy(2, 0, 2, 1, 3), 3);
    y.copy(2, 1, 1, 0, 3);
    due("as they were, to later ones: fits(1, 0, 1)", y.fits(1, 0, 1), 2);
    row(y, 2, 0, 0, 8, 16, 8);
    due("copy(2, 1, 2, 0, 3)", y.copy(2, 1, 2, 0, 3), 3);
    y.copy(2, 0, 1, 0, 3);
    due("as they were, to earlier ones: fits(1, 0, 1)", y.fits(1, 0, 1), 2);
  }

  private static void ants() {
    AntsTurn x = new AntsTurn();
    row(x, 0, 2, 99, 1, 203, 4, 6, 100, 0, 5, 919, 20);
    int[][] bad = {{-1, 2, 0, 0}, {4, 2, 0, 0}, {0, -1, 0, 0}, {0, 3, 0, 0}, {0, 2, 0, -1}, {0, 2, 0, 8}, {1, 3, 0, 1}};
    for (int[] b : bad) {
      due("ants(" + b[0] + ", " + b[1] + ", " + b[2] + ", " + b[3] + ")", x.ants(b[0], b[1], b[2], b[3]), AntsTurn.BAD);
    }
    due("ants(0, 1, 0, 1)", x.ants(0, 1, 0, 1), -13);
    due("ants(0, 0, 99, 0)", x.ants(0, 0, 99, 0), -13);
    due("ants(1, 2, 0, 0)", x.ants(1, 2, 0, 0), -11);
    due("ants(0, 2, -1, 1)", x.ants(0, 2, -1, 1), -12);
    due("ants(0, 2, 8, 1)", x.ants(0, 2, 8, 1), -12);
    due("ants(0, 2, MAX, 7)", x.ants(0, 2, MAX, 7), -12);
    due("ants(0, 2, MIN, 7)", x.ants(0, 2, MIN, 7), -12);
    due("ants(0, 2, 0, 0)", x.ants(0, 2, 0, 0), 0);
    due("none came", x.count(0), 0);
    due("ants(0, 2, 1, 3)", x.ants(0, 2, 1, 3), 2);
    int[][] told = {{2, 0, 4, 3, 1}, {9, 1, 20, 9, 5}};
    for (int ant = 0; ant < 2; ant++) {
      for (int what = 0; what < 5; what++) {
        due("told(" + ant + ", " + what + ")", x.told(ant, what), told[ant][what]);
      }
    }
    due("ants(0, 2, 1, 4)", x.ants(0, 2, 1, 4), -12);
    due("what stood ahead came: count(0)", x.count(0), 4);
    due("ants(0, 2, 1, 3)", x.ants(0, 2, 1, 3), 2);
    due("full by then: ants(0, 2, 1, 3)", x.ants(0, 2, 1, 3), 1);
    due("full: ants(0, 2, 1, 3)", x.ants(0, 2, 1, 3), 0);
    due("full: ants(0, 2, 1, 4)", x.ants(0, 2, 1, 4), -12);
    due("count(0)", x.count(0), 7);
    AntsTurn seven = new AntsTurn();
    seven.sheet(3, 1, 21);
    for (int i = 0; i < 7; i++) {
      seven.cell(3, 3 * i + 1, 100 * (i + 1));
    }
    due("seven: ants(3, 1, 0, 7)", seven.ants(3, 1, 0, 7), 7);
    due("last(1)", seven.last(1), 18);
  }

  private static void taken() {
    int[][] over = {{0}, {0, 1}, {0, 2}, {0, 1, 3}, {0, 2, 4}, {0, 2, 5}};
    AntsTurn x = new AntsTurn();
    for (int kind = 0; kind < 6; kind++) {
      x.ant(kind, 103 + kind, 0);
      for (int k = 0; k < 6; k++) {
        boolean is = false;
        for (int o : over[kind]) {
          is = is || o == k;
        }
        due("kind " + kind + ": taken(" + kind + ", " + k + ")", x.taken(kind, k), is ? 3 + kind : -13);
      }
    }
    due("taken(6, 0)", x.taken(6, 0), -11);
    due("taken(-1, 0)", x.taken(-1, 0), -11);
    due("taken(MIN, 5)", x.taken(MIN, 5), -11);
    due("taken(0, 6)", x.taken(0, 6), AntsTurn.BAD);
    due("taken(0, -1)", x.taken(0, -1), AntsTurn.BAD);
    due("taken(6, 6)", x.taken(6, 6), AntsTurn.BAD);
  }
}
