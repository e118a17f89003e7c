/** Short ways to feed texts and to fill sheets. */
final class Texts {
  private Texts() {
  }

  static void feed(AntsTurn x, String letters) {
    for (int i = 0; i < letters.length(); i++) {
      x.feed(letters.charAt(i));
    }
  }

  static int read(AntsTurn x, String letters) {
    feed(x, letters);
    return x.text();
  }

  /** A text that is read on a new object: its number, which is 1, or what it answers to a fault. */
  static int read(String letters) {
    return read(new AntsTurn(), letters);
  }

  /** A text that is the rule from now on; a fault in it would make the test worthless. */
  static AntsTurn rule(AntsTurn x, String letters) {
    int text = read(x, letters);
    if (text <= 0 || x.force(text) < 0 || x.count(5) != text) {
      throw new IllegalStateException("'" + letters + "' is no rule: " + text);
    }
    return x;
  }

  static void row(AntsTurn x, int sheet, int sort, int... cells) {
    x.sheet(sheet, sort, cells.length);
    for (int i = 0; i < cells.length; i++) {
      x.cell(sheet, i, cells[i]);
    }
  }
}
