/** How an object has come to where it is, made anew as often as is asked; and all that can be found out of it. */
enum Scene {
  /** Two ants in the image and three now, a tape that is half a text, sheets of each sort, one missing. */
  SOME {
    AntsTurn make() {
      AntsTurn x = new AntsTurn();
      x.plank(0, 12);
      x.ant(0, 205, 0);
      x.ant(2, 411, 1);
      Texts.read(x, "turn 1;stay 0;heat 7;");
      x.force(1);
      x.image();
      x.ant(3, 712, 2);
      x.set(0, 3, 8);
      x.plank(0, 10);
      x.force(0);
      Texts.feed(x, "turn 2");
      Texts.row(x, 0, 0, 1, 103, 4, 5, 111, 20);
      Texts.row(x, 1, 1, 2, 719, 7, 4, 305, 0);
      Texts.row(x, 2, 2, 16, 8, 3);
      return x;
    }
  },
  /** No ants, and an image of none; two sheets of one sort, one of another, and an empty one. */
  SHEETS {
    AntsTurn make() {
      AntsTurn x = new AntsTurn();
      x.image();
      Texts.row(x, 0, 2, 1, 103, 4, 5, 111, 20);
      Texts.row(x, 1, 2, 2, 719, 7);
      Texts.row(x, 2, 1, 4, 305, 0);
      x.sheet(3, 0, 0);
      return x;
    }
  },
  /** As many ants, texts, bytes and cells as there may be, and no image. */
  FULL {
    AntsTurn make() {
      AntsTurn x = new AntsTurn();
      for (int i = 0; i < 7; i++) {
        x.ant(i % 6, 100 * (i + 1) + 10 * (i % 2) + i, i);
      }
      for (int n = 1; n < 6; n++) {
        Texts.read(x, "turn1;stay0;heat" + n + ";");
      }
      for (int i = 0; i < 160; i++) {
        x.feed('(');
      }
      for (int s = 0; s < 4; s++) {
        x.sheet(s, s % 3, 40);
      }
      return x;
    }
  },
  /** Nothing has been done yet. */
  NEW {
    AntsTurn make() {
      return new AntsTurn();
    }
  };

  private static final int[] SIZES = {0, 1, 2, 3, 4, 5, 6, 7, 39, 40, 41};

  abstract AntsTurn make();

  /** It changes the object, so that it is asked once only, at the end. */
  String probe(AntsTurn x) {
    StringBuilder b = new StringBuilder();
    told(x, b);
    sheets(x, b);
    b.append(" goes ").append(x.of(0, 0)).append(' ').append(x.soonest(0)).append(' ').append(x.through(0, 1));
    Texts.feed(x, ";stay 1;heat 3;");
    b.append(" text ").append(x.text()).append(" back ").append(x.back());
    told(x, b);
    b.append(" came");
    for (int k = 0; k < 12; k++) {
      b.append(' ').append(x.ants(k / 3, k % 3, 0, 2));
    }
    told(x, b);
    return b.toString();
  }

  private static void told(AntsTurn x, StringBuilder b) {
    b.append(" counts");
    for (int what = 0; what < 6; what++) {
      b.append(' ').append(x.count(what));
    }
    int ants = x.count(0);
    for (int ant = 0; ant < ants; ant++) {
      b.append(" ant");
      for (int what = 0; what < 5; what++) {
        b.append(' ').append(x.told(ant, what));
      }
    }
  }

  private static void sheets(AntsTurn x, StringBuilder b) {
    for (int s = 0; s < 4; s++) {
      b.append(" sheet");
      for (int n : SIZES) {
        b.append(' ').append(x.copy(s, 0, s, 0, n));
      }
      for (int sort = 0; sort < 3; sort++) {
        b.append(' ').append(x.ants(s, sort, 0, 0));
      }
    }
  }
}
