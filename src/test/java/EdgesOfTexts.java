/** Promises 6 to 8: the tape, texts and the rule. */
final class EdgesOfTexts extends EdgesOf {
  private static final String GOOD = "turn 1;stay 0;heat 0;";

  private EdgesOfTexts(Edges e) {
    super(e);
  }

  static void look(Edges e) {
    EdgesOfTexts t = new EdgesOfTexts(e);
    t.feed();
    t.textIsRead();
    t.textsAreFull();
    t.tokens();
    t.bytes();
    t.partsOfText();
    t.joined();
    t.sums();
    t.ones();
    t.faults();
    t.open();
    t.openNots();
    t.worths();
    t.wrapping();
    t.names();
    t.namesAtBounds();
    t.namesAtEnds();
    t.turnStayHeat();
    t.force();
  }

  private void fault(String letters, int place) {
    e.is("text '" + letters + "'", Texts.read(letters), -100 - place);
  }

  private void good(String expression) {
    e.is("turn " + expression, Texts.read("turn " + expression + ";stay 0;heat 0;"), 1);
  }

  /** Two ants on knots 2 and 4 meet once, on place 6 in beat 2. */
  private static AntsTurn pair(String rule) {
    return Texts.rule(pair(), rule);
  }

  /** Two ants on a ring that meet in beats 0, 10 .. 200 if they both turn or both don't. */
  private static AntsTurn ring(String rule) {
    return Texts.rule(with(10, 1, new int[] {0, 500, 0}, new int[] {0, 510, 0}), rule);
  }

  /** One ant that is at the end 1 in beat 2, and if it turns, at the end 0 in beat 6, and so on. */
  private static AntsTurn single(int kind, int number, String rule) {
    return Texts.rule(with(2, 0, new int[] {kind, 100 + number, 0}), rule);
  }

  private void worth(String expression, int want) {
    e.is("heat " + expression, pair("turn 1;stay 0;heat " + expression + ";").of(0, 4), want);
  }

  private void feed() {
    AntsTurn x = new AntsTurn();
    e.says(6, "A byte (0 .. 255) comes behind THE TAPE: how many it has.");
    e.is("feed(0)", x.feed(0), 1);
    e.is("feed(255)", x.feed(255), 2);
    e.is("feed(128)", x.feed(128), 3);
    e.is("count(4)", x.count(4), 3);
    e.says(6, "BAD; FULL.");
    for (int letter : new int[] {-1, 256, 257, -128, MIN, MAX}) {
      e.stays(Scene.SOME, "feed(" + letter + ")", y -> y.feed(letter), BAD);
      e.stays(Scene.FULL, "feed(" + letter + ")", y -> y.feed(letter), BAD);
    }
    e.stays(Scene.FULL, "feed(0)", y -> y.feed(0), FULL);
    e.stays(Scene.FULL, "feed(255)", y -> y.feed(255), FULL);
    e.says(6, "A TEXT is read from THE TAPE (160 bytes at most).");
    AntsTurn y = new AntsTurn();
    for (int n = 1; n <= 160; n++) {
      e.is("byte " + n, y.feed(n == 1 ? '?' : ' '), n);
    }
    e.is("byte 161", y.feed(' '), FULL);
    e.is("the first byte is the first still: text()", y.text(), -100);
    for (int n = 1; n <= 160; n++) {
      e.is("byte " + n + " once more", y.feed(' '), n);
    }
    e.is("byte 161 once more", y.feed(' '), FULL);
  }

  private void textIsRead() {
    AntsTurn x = new AntsTurn();
    e.says(7, "THE TAPE, which is empty then (by a FAULT, too), is a TEXT: its number; -100 less the place of its FAULT.");
    e.is("nothing on the tape", x.text(), -100);
    e.is("a text", Texts.read(x, GOOD), 1);
    e.is("count(4)", x.count(4), 0);
    e.is("no text behind it", x.text(), -100);
    e.is("a fault", Texts.read(x, "turn 1;;"), -107);
    e.is("count(4) behind a fault", x.count(4), 0);
    e.is("count(3) behind a fault", x.count(3), 2);
    e.is("count(5)", x.count(5), 0);
    e.is("a text behind a fault", Texts.read(x, GOOD), 2);
    AntsTurn many = pair("turn 1;stay 0;heat 9;");
    String sum = "turn 1;stay 0;heat 1" + "+1".repeat(68);
    for (int n = 2; n < 6; n++) {
      e.is("157 bytes that end too early", Texts.read(many, sum), -100 - sum.length());
      e.is("a text of 158 bytes behind them", Texts.read(many, sum + ";"), n);
      many.force(n);
      e.is("what it comes to: of(0, 4)", many.of(0, 4), 69);
    }
    fault("?" + " ".repeat(159), 0);
    fault(" ".repeat(159) + "?", 159);
    fault(" ".repeat(160), 160);
    e.is("160 bytes", Texts.read(GOOD + " ".repeat(160 - GOOD.length())), 1);
    e.is("160 bytes, the last a sign", Texts.read(" ".repeat(160 - GOOD.length()) + GOOD), 1);
  }

  private void textsAreFull() {
    e.says(7, "There are 6 TEXTS at most, TEXT 0 with them.");
    AntsTurn x = new AntsTurn();
    e.is("count(3)", x.count(3), 1);
    for (int n = 1; n < 6; n++) {
      e.is("text " + n, Texts.read(x, GOOD), n);
    }
    e.is("count(3)", x.count(3), 6);
    e.says(7, "FULL (ahead of all): no TEXT more has room (THE TAPE stays).");
    e.is("nothing on the tape", x.text(), FULL);
    e.is("one more", Texts.read(x, GOOD), FULL);
    e.is("count(4)", x.count(4), GOOD.length());
    e.is("with a fault", Texts.read(x, "?"), FULL);
    e.is("count(4)", x.count(4), GOOD.length() + 1);
    e.is("count(3)", x.count(3), 6);
    e.stays(Scene.FULL, "text()", AntsTurn::text, FULL);
    e.says(7, "THE TAPE stays");
    e.is("it goes on: feed(65)", x.feed(65), GOOD.length() + 2);
  }

  private void tokens() {
    e.says(7, "TOKENS, each as long as can be: WORDS (a .. z), NUMBERS (as many digits as stand there, 4 at most),");
    good("1");
    e.is("no blanks", Texts.read("turn1;stay0;heat0;"), 1);
    fault("turnmeets;stay 0;heat 0;", 0);
    fault("tu rn 1", 0);
    fault("turn meetsplace", 5);
    fault("turn notleft", 5);
    fault("turn 1 orleft", 7);
    fault("turn me ets", 5);
    fault("turn meets1", 10);
    good("not left");
    good("1or 2");
    good("1 or2");
    good("9999");
    good("0000");
    fault("turn 10000", 5);
    fault("turn 00000", 5);
    fault("turn 1+123456789", 7);
    fault("turn 1 2", 7);
    fault("turn 12 34", 8);
  }

  /** By every byte there is: which may stand where something is asked, and which behind it. */
  private void bytes() {
    e.says(7, "SIGNS ( ) ; + - * < = ; blanks (32, 10) may stand between.");
    for (int b = 0; b < 256; b++) {
      boolean digit = b >= '0' && b <= '9';
      boolean blank = b == 32 || b == 10;
      int ahead = blank || b == '-' ? 1 : b == '(' ? -108 : digit ? -107 : -105;
      e.is("byte " + b + " ahead of 1", Texts.read("turn " + (char) b + " 1;stay 0;heat 0;"), ahead);
      boolean joins = b == '+' || b == '-' || b == '*' || b == '<' || b == '=';
      int behind = joins ? 1 : blank || b == ';' ? -109 : -107;
      e.is("byte " + b + " behind 1", Texts.read("turn 1 " + (char) b + " 1;stay 0;heat 0;"), behind);
    }
    e.is("blanks all over", Texts.read(" \n turn\n( 1 )\n;\nstay 0\n\n; heat 0 ;\n "), 1);
  }

  private void partsOfText() {
    e.says(7, "TEXT: turn E ; stay E ; heat E ;");
    e.is(GOOD, Texts.read(GOOD), 1);
    fault("stay 0;turn 1;heat 0;", 0);
    fault("heat 0;", 0);
    fault("turn 1;heat 0;stay 0;", 7);
    fault("turn 1;turn 1;stay 0;heat 0;", 7);
    fault("turn 1;stay 0;stay 0;heat 0;", 14);
    fault("turn 1;stay 0;turn 1;", 14);
    fault("turn;stay 0;heat 0;", 4);
    fault("turn 1;stay;heat 0;", 11);
    fault("turn 1;stay 0;heat;", 18);
    fault("turn 1 stay 0;heat 0;", 7);
    fault("turn 1;stay 0 heat 0;", 14);
    fault("turn 1;;stay 0;heat 0;", 7);
    fault("1;stay 0;heat 0;", 0);
    fault("turn 1;0;heat 0;", 7);
    fault(GOOD + ";", 21);
    fault(GOOD + "turn", 21);
    fault(GOOD + " 1", 22);
    fault(GOOD + "\n?", 22);
    fault(GOOD + GOOD, 21);
  }

  private void joined() {
    e.says(7, "E: AND { or AND }.");
    good("1 or 0 or 0 or 1");
    fault("turn or 1", 5);
    fault("turn 1 or;", 9);
    fault("turn 1 or or 1", 10);
    fault("turn 1 or and 1", 10);
    e.says(7, "AND: NOT { and NOT }.");
    good("1 and 0 and 0 and not 1");
    fault("turn and 1", 5);
    fault("turn 1 and;", 10);
    fault("turn 1 and and 1", 11);
    fault("turn 1 and or 1", 11);
    e.says(7, "NOT: not NOT, or SUM, perhaps < or = and a SUM.");
    good("not not not 1");
    good("not 1<2");
    good("(1<2)<3");
    good("1+2<3+4");
    good("1-2=3*4");
    fault("turn not;", 8);
    fault("turn 1 not 1", 7);
    fault("turn 1<not 2", 7);
    fault("turn 1=not 2", 7);
    fault("turn 1<2<3", 8);
    fault("turn 1=2=3", 8);
    fault("turn 1<2=3", 8);
    fault("turn 1=2<3", 8);
    fault("turn 1+2=3+4=5", 12);
    fault("turn <1", 5);
    fault("turn =1", 5);
    fault("turn 1<;", 7);
    fault("turn 1==1", 7);
    fault("turn 1<=1", 7);
    fault("turn 1=<1", 7);
  }

  private void sums() {
    e.says(7, "SUM: TERM { + or - TERM }.");
    good("1+2-3+4-5");
    good("1--1");
    good("1+-1");
    fault("turn +1", 5);
    fault("turn 1+;", 7);
    fault("turn 1-;", 7);
    fault("turn 1++1", 7);
    fault("turn 1-+1", 7);
    fault("turn 1+not 1", 7);
    e.says(7, "TERM: ONE { * ONE }.");
    good("1*2*3*-4");
    fault("turn *1", 5);
    fault("turn 1*;", 7);
    fault("turn 1**1", 7);
    fault("turn 1*+1", 7);
    fault("turn 1*not 1", 7);
  }

  private void ones() {
    e.says(7, "ONE: a NUMBER, a NAME, - ONE, ( E ).");
    good("-meets*(not 1 or left<2)");
    good("--(1)");
    fault("turn ;", 5);
    fault("turn ()", 6);
    fault("turn )", 5);
    fault("turn (1;", 7);
    fault("turn (1 1)", 8);
    fault("turn 1)", 6);
    fault("turn (1))", 8);
    fault("turn 1(2)", 6);
    fault("turn (1)(2)", 8);
    fault("turn -;", 6);
    fault("turn -+1", 6);
    fault("turn -not 1", 6);
    e.says(7, "NAMES are meets place left beat others number; turn, stay, heat, or, and, not are KEYS.");
    for (String name : new String[] {"meets", "place", "left", "beat", "others", "number"}) {
      good(name);
      fault(name + " 1", 0);
      fault("turn 1;" + name, 7);
      fault("turn " + name + "s", 5);
      fault("turn " + name.substring(1), 5);
      fault("turn " + name.substring(0, name.length() - 1), 5);
    }
    for (String key : new String[] {"turn", "stay", "heat", "or", "and"}) {
      fault("turn " + key + " 1", 5);
      fault("turn 1+" + key, 7);
      fault("turn (" + key + ")", 6);
    }
    for (String key : new String[] {"or", "and", "not"}) {
      fault(key + " 1;", 0);
      fault("turn 1;" + key, 7);
    }
  }

  private void faults() {
    e.says(7, "FAULT: the place of the first byte of the first TOKEN that can't stand there (the text's size, if it ends too early),");
    fault("", 0);
    fault(" ", 1);
    fault("\n\n", 2);
    String[] early = {
      "turn", "turn ", "turn 1", "turn 1;", "turn 1;stay", "turn 1;stay 0", "turn 1;stay 0;", "turn 1;stay 0;heat",
      "turn 1;stay 0;heat 0", "turn 1;stay 0;heat 0\n ", "turn (", "turn -", "turn not", "turn (1", "turn 1+", "turn 1*",
      "turn 1<", "turn 1=", "turn 1 or", "turn 1 and", "turn 9999"
    };
    for (String s : early) {
      fault(s, s.length());
    }
    fault("tur", 0);
    fault("turn 1;sta", 7);
    fault("turn ; ? 12345 x", 5);
    fault("turn 1 ) ? 12345 x", 7);
    fault("turn 1 2 ?", 7);
    e.says(7, "also of a byte that begins none,");
    fault("?", 0);
    fault("turn ?", 5);
    fault("turn 1?", 6);
    fault("turn 1;stay 0;heat 0?;", 20);
    fault("turn 1 \t;", 7);
    fault("TURN 1", 0);
    fault("Turn 1", 0);
    fault("turn meetS", 5);
    fault("turn meetsS", 10);
    e.says(7, "a WORD that is neither KEY nor NAME,");
    fault("x", 0);
    fault("turn x", 5);
    fault("turn 1 x", 7);
    fault("turn (ants", 6);
    fault("turn 1;stay 0;heats 0;", 14);
    e.says(7, "a NUMBER that is too long,");
    fault("12345", 0);
    fault("turn 12345;", 5);
    fault("turn 1 12345", 7);
    fault("turn 1;stay 0;heat 1*99999;", 21);
    fault("turn " + "1".repeat(155), 5);
  }

  private void open() {
    e.says(7, "a ( , a not, a - ahead of a ONE while 5 of these are open (a ( till its ) , not and - till what they belong to ends).");
    String[] five = {
      "(((((1)))))", "(((((1)))))+(((((1)))))", "(((((1)+1)+1)+1)+1)", "-----1", "-----1*-----1", "-----1------1",
      "-1-1-1-1-1-1-1", "-1*-1*-1*-1*-1*-1", "1-1-1-1-1-1-1-1", "-(-(-1))", "-((((1))))", "-1+(((((1)))))",
      "-1*(((((1)))))", "(((((1-1)))))", "(((((1)-(1)))))", "((((-1))))-----1"
    };
    for (String expression : five) {
      good(expression);
    }
    fault("turn ((((((1", 10);
    fault("turn ------1", 10);
    fault("turn -(-(-(1", 10);
    fault("turn -(-(--1", 10);
    fault("turn (((((-1", 10);
    fault("turn -(((((1", 10);
    fault("turn 1+((((((1", 12);
    fault("turn 1<-(((((1", 12);
    fault("turn (((((1--1", 12);
    fault("turn (((((1-(1", 12);
    fault("turn (((((1)-1)*(((1", 18);
    fault("turn 1;stay ((((((0", 17);
    fault("turn 1;stay (((((0)))));heat ------0", 34);
  }

  private void openNots() {
    e.says(7, "a not,");
    String[] five = {
      "not not not not not 1", "not 1 and not 1 and not 1 and not 1 and not 1 and not 1", "not not not not not 1 or -1",
      "not not not not not 1 and not not not not not 1", "not not not not not 1 and (1)", "not not not not -1=-1",
      "(not (not 1))+(not (not 1))", "not (not (not 1))", "not not not not not 1+1*1<1", "not not not not not 1-1",
      "((((not 1 and not 1))))", "(not 1)*(((((1)))))", "not 1 or (((((1)))))", "not 1 and (((((1)))))"
    };
    for (String expression : five) {
      good(expression);
    }
    fault("turn not not not not not not 1", 25);
    fault("turn not not not not not -1", 25);
    fault("turn not not not not not (1)", 25);
    fault("turn not not not not not 1<-1", 27);
    fault("turn not not not not not 1+-1", 27);
    fault("turn not not not not not 1*(1)", 27);
    fault("turn not not not not 1=--1", 24);
    fault("turn not (not (not (1", 19);
    fault("turn not (not (not -1", 19);
    fault("turn (((((not 1", 10);
    fault("turn (((((1 and not 1", 16);
    fault("turn ((((not not 1", 13);
    fault("turn not 1<(((((1", 15);
  }

  private void worths() {
    e.says(7, "An E is an int (32 bits, wrapping): of or, and, not, <, = 1 or 0 (what is not 0 is true).");
    String[] ones = {
      "2 or 0", "0 or 7", "2 or 3", "2 and 3", "not 0", "not not 7", "1<2", "2=2", "-1 or 0", "-1 and -1", "-2<-1",
      "1 or 0 and 0", "0 and 0 or 1", "not (0 and 0)", "not 1 or 1", "not 1<0", "1+1<1+2", "2*3=6", "1<2 and 3",
      "3 and 4=4", "1=1 or 0=1 and 0", "0 or 0 or 1", "1 and 1 and 1", "5-3-1", "9-4*2", "-3<-1-1"
    };
    for (String expression : ones) {
      worth(expression, 1);
    }
    String[] noughts = {
      "0 or 0", "2 and 0", "0 and 2", "0 and 0", "not 7", "not -1", "2<2", "2<1", "2=1", "(1 or 0) and 0", "not 0 and 0",
      "-1=1", "1 and 1 and 0", "0 or 0 or 0", "5-3-2", "-1<-1"
    };
    for (String expression : noughts) {
      worth(expression, 0);
    }
    Object[][] others = {
      {"2+3*4", 14}, {"2*3+4", 10}, {"2*(3+4)", 14}, {"-2*-3", 6}, {"-2+5", 3}, {"--9", 9}, {"2--3", 5}, {"5-(3-1)", 3},
      {"(1<2)+(2<3)", 2}, {"(1 or 1)+(1 and 1)", 2}, {"0012", 12}, {"2*3*4", 24},
      {"9-4+3", 8}, {"4+9-3", 10}, {"20-2-3*4", 6}, {"-(2-9)", 7}
    };
    for (Object[] o : others) {
      worth((String) o[0], (Integer) o[1]);
    }
  }

  private void wrapping() {
    e.says(7, "(32 bits, wrapping)");
    String least = "128*256*256*256";
    String most = "(128*256*256*256-1)";
    worth("256*256*256*256", 0);
    worth("not (256*256*256*256)", 1);
    worth("256*256*256*256+5", 5);
    worth(least + "<0", 1);
    worth(most + "<0", 0);
    worth("0<" + most, 1);
    worth(most + "+1<0", 1);
    worth(most + "+1=" + least, 1);
    worth(least + "-1=" + most, 1);
    worth("-(" + least + ")=" + least, 1);
    worth("-(" + least + ")<0", 1);
    worth(least + "<" + most, 1);
    worth(most + "<" + least, 0);
    worth(least + " and 1", 1);
    // 9999 * 9999 * 9999 wraps to -1027349969, which is 2714 less than -9999 * 102745.
    worth("9999*9999*9999+9999*(1000*102+745)+2714", 0);
    worth("9999*9999*9999+9999*(1000*102+745)+2721", 7);
  }

  private void names() {
    e.says(7, "Of an ant, as it meets, or is at an end: meets: how often it met ahead of that; place: where it is (HALVES); "
        + "left: 1, if it faces LEFT, else 0; beat: the BEAT; others: how many other ants are at its place; number: which ant it is.");
    String[] names = {"meets", "place", "left", "beat", "others", "number"};
    int[][] wants = {{0, 6, 0, 2, 1, 0}, {0, 6, 1, 2, 1, 1}};
    for (int k = 0; k < 6; k++) {
      AntsTurn x = pair("turn 1;stay 0;heat " + names[k] + ";");
      e.is(names[k] + " of ant 0", x.of(0, 4), wants[0][k]);
      e.is(names[k] + " of ant 1", x.of(1, 4), wants[1][k]);
    }
  }

  private void namesAtBounds() {
    e.says(7, "meets: how often it met ahead of that;");
    e.is("0 to 20: of(0, 4)", ring("turn 1;stay 0;heat meets;").of(0, 4), 210);
    e.is("20: of(0, 3)", ring("turn meets=20;stay 0;heat 0;").of(0, 3), 1);
    e.is("never 21: of(0, 3)", ring("turn meets=21;stay 0;heat 0;").of(0, 3), 0);
    e.says(7, "place: where it is (HALVES);");
    e.is("on places 10 and 0 in turns: of(1, 4)", ring("turn 1;stay 0;heat place;").of(1, 4), 110);
    AntsTurn high = new AntsTurn();
    high.plank(0, 40);
    high.plank(1, 1);
    high.ant(0, 3900, 1);
    high.ant(0, 110, 0);
    Texts.rule(high, "turn beat=3;stay 0;heat (beat=3)*place;");
    e.is("on the last place of a ring: of(0, 4)", high.of(0, 4), 79);
    AntsTurn end = new AntsTurn();
    end.plank(0, 40);
    end.ant(0, 3900, 0);
    Texts.rule(end, "turn 1;stay place=80;heat 0;");
    e.is("on the last place of a plank: of(0, 0)", end.of(0, 0), 82);
    e.says(7, "beat: the BEAT;");
    AntsTurn first = ring("turn beat=0;stay 0;heat 0;");
    e.is("beat 0: of(0, 3)", first.of(0, 3), 1);
    e.is("beat 0: of(0, 2)", first.of(0, 2), 21);
    e.is("beat 0: at(0, 0, 1)", first.at(0, 0, 1), 1);
    AntsTurn last = ring("turn beat=200;stay 0;heat 0;");
    e.is("beat 200: of(1, 3)", last.of(1, 3), 1);
    e.is("beat 200: at(1, 199, 1)", last.at(1, 199, 1), 1);
    e.is("beat 200: at(1, 200, 1)", last.at(1, 200, 1), 0);
    e.says(7, "others: how many other ants are at its place; number: which ant it is.");
    AntsTurn seven = new AntsTurn();
    for (int i = 0; i < 7; i++) {
      seven.ant(0, i == 6 ? 510 : 500, 0);
    }
    Texts.rule(seven, "turn number=6;stay 0;heat others;");
    e.is("six others: of(0, 4)", seven.of(0, 4), 6);
    e.is("six others: of(6, 4)", seven.of(6, 4), 6);
    e.is("ant 6: of(6, 3)", seven.of(6, 3), 1);
    e.is("ant 5: of(5, 3)", seven.of(5, 3), 0);
  }

  private void namesAtEnds() {
    e.says(7, "as it meets, or is at an end");
    Object[][] rows = {
      {"meets", 2}, {"not meets and beat=2", 6}, {"place=4", 6}, {"place=0", 2}, {"place", 6}, {"left", 2}, {"not left", 6},
      {"beat=2", 6}, {"beat<6", 6}, {"beat<7", 10}, {"others", 2}, {"number", 2}, {"number=0 and beat=2", 6}
    };
    for (Object[] r : rows) {
      e.is("stay " + r[0] + ": of(0, 0)", single(0, 0, "turn 1;stay " + r[0] + ";heat 0;").of(0, 0), (Integer) r[1]);
    }
    e.is("stay meets, behind a meeting: of(0, 0)", pair("turn 1;stay meets;heat 0;").of(0, 0), NONE);
    e.is("stay meets=2, behind one meeting: of(0, 0)", pair("turn 1;stay meets=2;heat 0;").of(0, 0), 8);
    String[] stays = {"others and number", "others and not number"};
    for (int k = 0; k < 2; k++) {
      AntsTurn x = with(2, 0, new int[] {0, 100, 0}, new int[] {0, 100, 0});
      Texts.rule(x, "turn 1;stay " + stays[k] + ";heat 0;");
      e.is("stay " + stays[k] + ": of(0, 0)", x.of(0, 0), k == 0 ? 2 : 6);
      e.is("stay " + stays[k] + ": of(1, 0)", x.of(1, 0), k == 0 ? 6 : 2);
    }
  }

  private void turnStayHeat() {
    e.says(7, "turn: whether it turns, too (not 0; besides TURNS).");
    Object[][] turns = {{"1", 1}, {"0", 0}, {"-1", 1}, {"2", 1}, {"256*256*256*256", 0}, {"128*256*256*256", 1}};
    for (Object[] t : turns) {
      AntsTurn x = pair("turn " + t[0] + ";stay 0;heat 0;");
      e.is("turn " + t[0] + ": of(0, 3)", x.of(0, 3), (Integer) t[1]);
      e.is("turn " + t[0] + ": of(0, 2)", x.of(0, 2), 1);
    }
    AntsTurn stubborn = pair("turn 1;stay 0;heat 0;");
    stubborn.ant(1, 200, 0);
    e.is("turn 1, but TURNS tells no: of(2, 3)", stubborn.of(2, 3), 0);
    e.is("turn 1, but TURNS tells no: of(2, 2)", stubborn.of(2, 2), 1);
    e.says(7, "stay: whether it turns at an end, even if BACK doesn't tell so (not 0).");
    e.is("stay -1: of(0, 0)", single(0, 0, "turn 1;stay -1;heat 0;").of(0, 0), NONE);
    e.is("stay -1: of(0, 3)", single(0, 0, "turn 1;stay -1;heat 0;").of(0, 3), 50);
    e.is("stay 0, nor BACK: of(0, 0)", single(0, 0, "turn 1;stay 0;heat 0;").of(0, 0), 2);
    e.is("stay 0, but BACK: of(0, 0)", single(2, 1, "turn 1;stay 0;heat 0;").of(0, 0), 6);
    e.is("stay that wraps to 0: of(0, 0)", single(0, 0, "turn 1;stay 256*256*256*256;heat 0;").of(0, 0), 2);
    e.says(7, "heat: how hot its meeting is (0 .. 99, else the bound).");
    Object[][] heats = {
      {"0", 0}, {"-1", 0}, {"-9999", 0}, {"128*256*256*256", 0}, {"1", 1}, {"98", 98}, {"99", 99}, {"100", 99}, {"9999", 99},
      {"128*256*256*256-1", 99}
    };
    for (Object[] h : heats) {
      worth((String) h[0], (Integer) h[1]);
    }
    e.is("each meeting's by itself: of(0, 4)", ring("turn 1;stay 0;heat 100;").of(0, 4), 21 * 99);
    e.is("those below 0 take nothing off: of(0, 4)", ring("turn 1;stay 0;heat 50-beat;").of(0, 4), 50 + 40 + 30 + 20 + 10);
    e.says(7, "TEXT 0, at first THE RULE, is: turn 1 ; stay 0 ; heat others ;");
    AntsTurn x = new AntsTurn();
    x.ant(0, 200, 0);
    x.ant(0, 200, 0);
    x.ant(0, 410, 0);
    e.is("count(5)", x.count(5), 0);
    e.is("of(0, 0)", x.of(0, 0), 8);
    e.is("of(0, 3)", x.of(0, 3), 1);
    e.is("of(2, 0)", x.of(2, 0), 16);
    e.is("of(2, 4)", x.of(2, 4), 2);
  }

  private void force() {
    e.says(8, "A TEXT is THE RULE: which was.");
    AntsTurn x = pair("turn 0;stay 0;heat 3;");
    e.is("force(1) again", x.force(1), 1);
    e.is("of(0, 4)", x.of(0, 4), 3);
    e.is("of(0, 3)", x.of(0, 3), 0);
    e.is("force(0)", x.force(0), 1);
    e.is("of(0, 4) by TEXT 0", x.of(0, 4), 1);
    e.is("of(0, 3) by TEXT 0", x.of(0, 3), 1);
    e.is("longest(1, 1) by TEXT 0", x.longest(1, 1), 16);
    Texts.read(x, "turn 1;stay not left;heat 5;");
    e.is("a TEXT that was read isn't in force: of(0, 4)", x.of(0, 4), 1);
    e.is("force(2)", x.force(2), 0);
    e.is("of(0, 4) by TEXT 2", x.of(0, 4), 5);
    e.is("both right at first, they meet in beat 14: longest(1, 1) by TEXT 2", x.longest(1, 1), 36);
    e.says(8, "BAD.");
    for (int text : new int[] {-1, 2, 5, 6, MIN, MAX}) {
      e.stays(Scene.SOME, "force(" + text + ")", y -> y.force(text), BAD);
    }
    e.stays(Scene.NEW, "force(1)", y -> y.force(1), BAD);
    e.stays(Scene.FULL, "force(6)", y -> y.force(6), BAD);
    AntsTurn full = Scene.FULL.make();
    e.is("the last TEXT: force(5)", full.force(5), 0);
    e.is("count(5)", full.count(5), 5);
  }
}
