/** What the tests by sentences share: the answers that refuse, and a few planks. */
abstract class EdgesOf {
  static final int MIN = Integer.MIN_VALUE, MAX = Integer.MAX_VALUE;
  static final int NONE = -1, BAD = -2, STATE = -3, FULL = -4;
  static final int NOTHING = -11, OUTSIDE = -12, OTHER_SORT = -13, BELOW_NOTHING = -14, NO_SUCH = -100000;
  static final long NO = -4611686018427387904L;

  final Edges e;

  EdgesOf(Edges e) {
    this.e = e;
  }

  static AntsTurn with(int knots, int ring, int[]... ants) {
    AntsTurn x = new AntsTurn();
    x.plank(0, knots);
    x.plank(1, ring);
    for (int[] a : ants) {
      x.ant(a[0], a[1], a[2]);
    }
    return x;
  }

  /** They meet on place 6 in beat 2. By ways 0 to 3 they are off in 16 and 12, 4 and 12, 8 and 16, 4 and 8. */
  static AntsTurn pair() {
    return with(10, 0, new int[] {0, 200, 0}, new int[] {0, 410, 0});
  }

  /** From knot 3 it is off in 200 by way 1 alone; from knot 4 by none, as it would be in 202. */
  static AntsTurn late(int knot) {
    return with(11, 0, new int[] {2, 100 * knot + 17, 20});
  }
}
