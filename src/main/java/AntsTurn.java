import java.util.Arrays;

/** Ants on a plank, or round a ring, that turn when they meet: ../shared/DOC.md tells what is promised. */
public final class AntsTurn {
  public static final int NONE = -1, BAD = -2, STATE = -3, FULL = -4;
  public static final long NO = -4611686018427387904L;

  private static final int NOTHING = -11, OUTSIDE = -12, OF_ANOTHER_SORT = -13, BELOW_NOTHING = -14;
  private static final int NO_SUCH = -100000, FAULTY = -100;

  private static final int MOST_ANTS = 7, MOST_KINDS = 6, MOST_TEXTS = 6, MOST_BYTES = 160;
  private static final int MOST_SHEETS = 4, MOST_CELLS = 40, MOST_SORTS = 3;
  private static final int LEAST_LONG = 2, MOST_LONG = 40, MOST_START = 20, MOST_NUMBER = 9;
  private static final int MOST_WAYS = 128, LAST_BEAT = 200;
  private static final int ROUND_FROM = 40, MOST_ROUND = 160;
  private static final int MOST_HEAT = 99, MOST_OPEN = 5, MOST_DIGITS = 4;

  private static final int KNOT = 0, LEFT = 1, START = 2, NUMBER = 3, TRAITS = 4;
  private static final int TURN_PART = 0, STAY_PART = 1, HEAT_PART = 2, PARTS = 3;
  private static final int MEETS = 0, PLACE = 1, FACES_LEFT = 2, BEAT = 3, OTHERS = 4, WHICH = 5, NAMES = 6;

  private static final String FIRST_TEXT = "turn 1 ; stay 0 ; heat others ;";

  private final Plank board = new Plank();
  private final Tape tape = new Tape();
  private final Rule[] rules = new Rule[MOST_TEXTS];
  private final Sheet[] sheets = new Sheet[MOST_SHEETS];
  private int ruleCount;
  private int ruleNumber;
  private int keptSize = NONE;
  private int keptLong;
  private int keptRing;
  private int keptRule;

  public AntsTurn() {
    for (int i = 0; i < MOST_SHEETS; i++) {
      sheets[i] = new Sheet();
    }
    for (int i = 0; i < FIRST_TEXT.length(); i++) {
      tape.put(FIRST_TEXT.charAt(i));
    }
    board.rule = tape.read();
    tape.size = 0;
    rules[0] = board.rule;
    ruleCount = 1;
  }

  // ---- the plank, ants

  public int plank(int what, int v) {
    if (what == 0) {
      return lengthen(v);
    }
    if (what != 1 || v < 0 || v > 1) {
      return BAD;
    }
    int was = board.ring;
    board.ring = v;
    board.forget();
    return was;
  }

  private int lengthen(int knots) {
    if (knots < LEAST_LONG || knots > MOST_LONG) {
      return BAD;
    }
    for (int i = 0; i < board.size; i++) {
      if (board.ants[i].traits[KNOT] > knots - 1) {
        return STATE;
      }
    }
    int was = board.knots;
    board.knots = knots;
    board.forget();
    return was;
  }

  public int ant(int kind, int what, int start) {
    return setDown(kind, what, start);
  }

  private int setDown(int kind, int what, int start) {
    int knot = what / 100;
    int left = what / 10 % 10;
    int number = what % 10;
    if (kind < 0 || kind >= MOST_KINDS || what < 0 || !isAllowed(KNOT, knot)
        || !isAllowed(LEFT, left) || !isAllowed(START, start)) {
      return BAD;
    }
    if (board.size >= MOST_ANTS) {
      return FULL;
    }
    Ant a = ofKind(kind);
    a.traits[KNOT] = knot;
    a.traits[LEFT] = left;
    a.traits[START] = start;
    a.traits[NUMBER] = number;
    board.ants[board.size] = a;
    board.size++;
    board.forget();
    return board.size - 1;
  }

  private static Ant ofKind(int kind) {
    switch (kind) {
      case 1:
        return new Stubborn();
      case 2:
        return new Shy();
      case 3:
        return new Tired();
      case 4:
        return new Proud();
      case 5:
        return new Edgy();
      default:
        return new Ant();
    }
  }

  public int set(int ant, int what, int v) {
    if (!isAnt(ant) || what < 0 || what >= TRAITS || !isAllowed(what, v)) {
      return BAD;
    }
    int was = board.ants[ant].traits[what];
    board.ants[ant].traits[what] = v;
    board.forget();
    return was;
  }

  public int told(int ant, int what) {
    if (!isAnt(ant) || what < 0 || what > 5) {
      return BAD;
    }
    Ant a = board.ants[ant];
    if (what < TRAITS) {
      return a.traits[what];
    }
    return what == 4 ? a.kind() : a.weighs();
  }

  private boolean isAnt(int ant) {
    return ant >= 0 && ant < board.size;
  }

  private boolean isAllowed(int trait, int v) {
    switch (trait) {
      case KNOT:
        return v >= 1 && v <= board.knots - 1;
      case LEFT:
        return v >= 0 && v <= 1;
      case START:
        return v >= 0 && v <= MOST_START;
      default:
        return v >= 0 && v <= MOST_NUMBER;
    }
  }

  // ---- texts

  public int feed(int letter) {
    if (letter < 0 || letter > 255) {
      return BAD;
    }
    return tape.put(letter) ? tape.size : FULL;
  }

  public int text() {
    if (ruleCount >= MOST_TEXTS) {
      return FULL;
    }
    Rule read = tape.read();
    tape.size = 0;
    if (read == null) {
      return FAULTY - tape.fault;
    }
    rules[ruleCount] = read;
    ruleCount++;
    return ruleCount - 1;
  }

  public int force(int text) {
    if (text < 0 || text >= ruleCount) {
      return BAD;
    }
    int was = ruleNumber;
    obey(text);
    return was;
  }

  private void obey(int text) {
    ruleNumber = text;
    board.rule = rules[text];
    board.forget();
  }

  // ---- how they go

  public int of(int ant, int what) {
    if (!isAnt(ant) || what < 0 || what > 4) {
      return NO_SUCH;
    }
    goTo(LAST_BEAT);
    Ant a = board.ants[ant];
    switch (what) {
      case 0:
        return a.off;
      case 1:
        return a.end;
      case 2:
        return a.met;
      case 3:
        return a.turned;
      default:
        return a.heat;
    }
  }

  public int at(int ant, int beat, int what) {
    if (!isAnt(ant) || !isBeat(beat) || !isEither(what)) {
      return BAD;
    }
    goTo(beat);
    Ant a = board.ants[ant];
    if (!a.on) {
      return NONE;
    }
    return what == 0 ? a.place : a.left;
  }

  public int last(int what) {
    if (!isEither(what)) {
      return BAD;
    }
    int way = board.wayAsTold();
    return what == 0 ? board.lastOf(way) : board.latestOf(way);
  }

  public int order(int beat) {
    if (!isBeat(beat)) {
      return BAD;
    }
    goTo(beat);
    int digits = 0;
    int counted = 0;
    for (int k = 0; k < board.size; k++) {
      int i = board.nextByPlace(counted);
      if (i != NONE) {
        digits = digits * 10 + i + 1;
        counted |= 1 << i;
      }
    }
    return digits;
  }

  public int tilt(int beat) {
    if (!isBeat(beat)) {
      return NO_SUCH;
    }
    goTo(beat);
    int sum = 0;
    for (int i = 0; i < board.size; i++) {
      Ant a = board.ants[i];
      if (a.on) {
        sum += a.weighs() * Integer.compare(board.knots, a.place);
      }
    }
    return sum;
  }

  public int through(int ant, int what) {
    if (what < 0 || what > 2 || (what == 0 && !isAnt(ant))) {
      return BAD;
    }
    int way = board.wayAsTold();
    if (what == 2) {
      return board.isLikeThrough(way) ? 1 : 0;
    }
    board.begin(way, true);
    board.goOn(LAST_BEAT);
    return what == 0 ? board.ants[ant].off : board.pairs;
  }

  private void goTo(int beat) {
    board.begin(board.wayAsTold(), false);
    board.goOn(beat);
  }

  private static boolean isBeat(int beat) {
    return beat >= 0 && beat <= LAST_BEAT;
  }

  private static boolean isEither(int what) {
    return what == 0 || what == 1;
  }

  // ---- set down so

  public int soonest(int what) {
    if (!isEither(what)) {
      return BAD;
    }
    int best = NONE;
    int bestBeat = NONE;
    for (int way = 0; way < board.ways(); way++) {
      int beat = board.latestOf(way);
      if (beat != NONE && (best == NONE || beat < bestBeat)) {
        best = way;
        bestBeat = beat;
      }
    }
    return what == 0 ? best : bestBeat;
  }

  public int beLast(int ant, int what) {
    if (!isAnt(ant) || !isEither(what)) {
      return BAD;
    }
    int found = 0;
    int least = NONE;
    for (int way = 0; way < board.ways(); way++) {
      if (board.lastOf(way) == ant) {
        found++;
        least = least == NONE ? way : least;
      }
    }
    return what == 0 ? found : least;
  }

  public int longest(int ant, int what) {
    if (!isAnt(ant) || !isEither(what)) {
      return BAD;
    }
    int best = NONE;
    int bestBeat = NONE;
    for (int way = 0; way < board.ways(); way++) {
      int beat = board.offs[board.rowOf(way) + ant];
      if (beat > bestBeat) {
        best = way;
        bestBeat = beat;
      }
    }
    return what == 0 ? best : bestBeat;
  }

  public int fits(int sheet, int sight, int what) {
    if (!isSheet(sheet) || !isEither(sight) || !isEither(what)) {
      return BAD;
    }
    Sheet s = sheets[sheet];
    if (s.isMissing()) {
      return NOTHING;
    }
    if (sight == 0 && s.size != board.size) {
      return BAD;
    }
    int found = 0;
    int least = NONE;
    for (int way = 0; way < board.ways(); way++) {
      if (sight == 0 ? comeOffAs(s, way) : areHeardAs(s, way)) {
        found++;
        least = least == NONE ? way : least;
      }
    }
    return what == 0 ? found : least;
  }

  private boolean comeOffAs(Sheet s, int way) {
    int row = board.rowOf(way);
    for (int i = 0; i < board.size; i++) {
      if (s.cells[i] != board.offs[row + i]) {
        return false;
      }
    }
    return true;
  }

  private boolean areHeardAs(Sheet s, int way) {
    board.begin(way, false);
    int heard = 0;
    for (int beat = 0; beat <= LAST_BEAT && board.still > 0; beat++) {
      board.goOn(beat);
      if (board.metIn == beat) {
        if (heard >= s.size || s.cells[heard] != beat) {
          return false;
        }
        heard++;
      }
    }
    return heard == s.size;
  }

  public long byThen(int beat, int part) {
    if (!isBeat(beat) || !isEither(part)) {
      return NO;
    }
    int found = 0;
    for (int way = 0; way < board.ways(); way++) {
      int latest = board.latestOf(way);
      if (board.size == 0 || (latest != NONE && latest <= beat)) {
        found++;
      }
    }
    // All ways are a power of 2, so that what is common is the lowest bit of those found.
    int common = found == 0 ? board.ways() : found & -found;
    int above = part == 0 ? found : board.ways();
    return common == 0 ? NO : above / common;
  }

  public int carried(int ant, int what) {
    if (!isAnt(ant) || !isEither(what)) {
      return BAD;
    }
    board.begin(board.wayAsTold(), false);
    board.carrier = ant;
    board.goOn(LAST_BEAT);
    return what == 0 ? board.carrier : board.ants[board.carrier].off;
  }

  public int round() {
    if (board.ring == 0) {
      return STATE;
    }
    goTo(ROUND_FROM);
    for (int i = 0; i < board.size; i++) {
      board.ants[i].note();
    }
    for (int n = 1; n <= MOST_ROUND; n++) {
      board.goOn(ROUND_FROM + n);
      if (board.isAsNoted()) {
        return n;
      }
    }
    return NONE;
  }

  public int drawn(int seed) {
    int z = seed;
    int way = 0;
    for (int i = 0; i < board.size; i++) {
      z = z * 1103515245 + 12345;
      way |= (z >>> 7) % 2 << i;
    }
    return board.latestOf(way);
  }

  public int image() {
    keptSize = board.size;
    keptLong = board.knots;
    keptRing = board.ring;
    keptRule = ruleNumber;
    for (int i = 0; i < board.size; i++) {
      board.ants[i].keepTraits();
    }
    return keptSize;
  }

  public int back() {
    if (keptSize == NONE) {
      return STATE;
    }
    // Ants of the image never go, so that the first ones are those that it kept.
    board.size = keptSize;
    board.knots = keptLong;
    board.ring = keptRing;
    for (int i = 0; i < keptSize; i++) {
      board.ants[i].layTraitsBack();
    }
    obey(keptRule);
    return keptSize;
  }

  public int count(int what) {
    switch (what) {
      case 0:
        return board.size;
      case 1:
        return board.knots;
      case 2:
        return board.ring;
      case 3:
        return ruleCount;
      case 4:
        return tape.size;
      case 5:
        return ruleNumber;
      default:
        return BAD;
    }
  }

  // ---- the host

  public int sheet(int sheet, int sort, int n) {
    if (!isSheet(sheet) || (sort != NONE && !isSort(sort)) || (sort != NONE && n > MOST_CELLS)) {
      return BAD;
    }
    if (sort != NONE && n < 0) {
      return BELOW_NOTHING;
    }
    sheets[sheet].become(sort, sort == NONE ? 0 : n);
    return 1;
  }

  public int cell(int sheet, int i, int v) {
    if (!isSheet(sheet)) {
      return BAD;
    }
    Sheet s = sheets[sheet];
    if (s.isMissing()) {
      return NOTHING;
    }
    if (i < 0 || i >= s.size) {
      return OUTSIDE;
    }
    s.write(i, v);
    return 1;
  }

  public int copy(int sheet, int i, int other, int j, int n) {
    if (!isSheet(sheet) || !isSheet(other)) {
      return BAD;
    }
    Sheet from = sheets[sheet];
    Sheet to = sheets[other];
    if (from.isMissing() || to.isMissing()) {
      return NOTHING;
    }
    if (from.sort != to.sort) {
      return OF_ANOTHER_SORT;
    }
    if (!from.has(i, n) || !to.has(j, n)) {
      return OUTSIDE;
    }
    System.arraycopy(from.cells, i, to.cells, j, n);
    return n;
  }

  public int ants(int sheet, int sort, int from, int n) {
    if (!isSheet(sheet) || !isSort(sort) || n < 0 || n > MOST_ANTS) {
      return BAD;
    }
    Sheet s = sheets[sheet];
    if (s.isMissing()) {
      return NOTHING;
    }
    if (s.sort != sort) {
      return OF_ANOTHER_SORT;
    }
    int came = 0;
    int i = from;
    for (int k = 0; k < n; k++) {
      if (!s.has(i, 3)) {
        return OUTSIDE;
      }
      if (setDown(s.cells[i], s.cells[i + 1], s.cells[i + 2]) >= 0) {
        came++;
      }
      i += 3;
    }
    return came;
  }

  public int taken(int ant, int k) {
    if (k < 0 || k >= MOST_KINDS) {
      return BAD;
    }
    if (!isAnt(ant)) {
      return NOTHING;
    }
    Ant a = board.ants[ant];
    return isOneOf(a, k) ? a.traits[NUMBER] : OF_ANOTHER_SORT;
  }

  private static boolean isOneOf(Ant a, int kind) {
    switch (kind) {
      case 1:
        return a instanceof Stubborn;
      case 2:
        return a instanceof Shy;
      case 3:
        return a instanceof Tired;
      case 4:
        return a instanceof Proud;
      case 5:
        return a instanceof Edgy;
      default:
        return true;
    }
  }

  private static boolean isSheet(int sheet) {
    return sheet >= 0 && sheet < MOST_SHEETS;
  }

  private static boolean isSort(int sort) {
    return sort >= 0 && sort < MOST_SORTS;
  }

  /** An ant: what is told of it, and where it has got to in the walk that is being gone through. */
  private static class Ant {
    final int[] traits = new int[TRAITS];
    private final int[] kept = new int[TRAITS];
    boolean on;
    int place;
    int left;
    int met;
    int turned;
    int returned;
    int heat;
    int off;
    int end;
    private int notedPlace;
    private int notedLeft;

    int kind() {
      return 0;
    }

    boolean turns() {
      return true;
    }

    boolean returns() {
      return false;
    }

    int weighs() {
      return traits[NUMBER];
    }

    final void begin(int facing) {
      on = false;
      place = 0;
      left = facing;
      met = 0;
      turned = 0;
      returned = 0;
      heat = 0;
      off = NONE;
      end = NONE;
    }

    final void turnRound() {
      left = 1 - left;
      turned++;
    }

    final void leave(int beat) {
      on = false;
      off = beat;
      end = 1 - left;
    }

    final void note() {
      notedPlace = place;
      notedLeft = left;
    }

    final boolean isAsNoted() {
      return place == notedPlace && left == notedLeft;
    }

    final void keepTraits() {
      System.arraycopy(traits, 0, kept, 0, TRAITS);
    }

    final void layTraitsBack() {
      System.arraycopy(kept, 0, traits, 0, TRAITS);
    }
  }

  private static class Stubborn extends Ant {
    int kind() {
      return 1;
    }

    boolean turns() {
      return false;
    }

    int weighs() {
      return super.weighs() + 1;
    }
  }

  private static class Shy extends Ant {
    int kind() {
      return 2;
    }

    boolean returns() {
      return returned < traits[NUMBER];
    }

    int weighs() {
      return super.weighs() / 2;
    }
  }

  private static final class Tired extends Stubborn {
    int kind() {
      return 3;
    }

    boolean turns() {
      return met < traits[NUMBER] || super.turns();
    }

    int weighs() {
      return 2 * super.weighs();
    }
  }

  private static final class Proud extends Shy {
    int kind() {
      return 4;
    }

    boolean turns() {
      return met != traits[NUMBER] && super.turns();
    }

    boolean returns() {
      return returned == 0 || super.returns();
    }

    int weighs() {
      return super.weighs() + 3;
    }
  }

  private static final class Edgy extends Shy {
    int kind() {
      return 5;
    }

    boolean returns() {
      return returned % 2 == 0 && super.returns();
    }

    int weighs() {
      return super.weighs() + traits[NUMBER];
    }
  }

  /** What is set down, how it goes from there beat by beat, and in which beats each way's ants are off. */
  private static final class Plank {
    final Ant[] ants = new Ant[MOST_ANTS];
    int size;
    int knots = 10;
    int ring;
    Rule rule;
    int carrier;
    int pairs;
    int metIn;
    int still;
    final int[] offs = new int[MOST_WAYS * MOST_ANTS];
    private final int[] stamps = new int[MOST_WAYS];
    private int stamp = 1;
    private int beat;
    private boolean asThrough;
    // The ants at each place, as bits, by how they face ahead of any turning in the beat.
    private final int[] leftsAt = new int[2 * MOST_LONG + 1];
    private final int[] rightsAt = new int[2 * MOST_LONG + 1];
    private final int[] seen = new int[NAMES];

    /** What was found out of ways doesn't hold any more. */
    void forget() {
      stamp++;
    }

    int ways() {
      return 1 << size;
    }

    int wayAsTold() {
      int way = 0;
      for (int i = 0; i < size; i++) {
        way |= ants[i].traits[LEFT] << i;
      }
      return way;
    }

    void begin(int way, boolean through) {
      for (int i = 0; i < size; i++) {
        ants[i].begin(way >> i & 1);
      }
      asThrough = through;
      carrier = NONE;
      pairs = 0;
      metIn = NONE;
      beat = -1;
      still = size;
    }

    /** Goes on till behind a beat; once all are off there is nothing more to go through. */
    void goOn(int until) {
      for (int b = beat + 1; b <= until && still > 0; b++) {
        beat = b;
        move();
        mark();
        handOver();
        meet();
        if (ring == 0) {
          lookAtEnds();
        }
        unmark();
      }
    }

    private void move() {
      for (int i = 0; i < size; i++) {
        Ant a = ants[i];
        if (a.on) {
          a.place = stepped(a.place + 1 - 2 * a.left);
        } else if (beat == 2 * a.traits[START]) {
          a.on = true;
          a.place = 2 * a.traits[KNOT];
        }
      }
    }

    private int stepped(int place) {
      if (place < 0) {
        return 2 * knots - 1;
      }
      return ring == 1 && place >= 2 * knots ? 0 : place;
    }

    private void mark() {
      for (int i = 0; i < size; i++) {
        Ant a = ants[i];
        if (a.on) {
          if (a.left == 1) {
            leftsAt[a.place] |= 1 << i;
          } else {
            rightsAt[a.place] |= 1 << i;
          }
        }
      }
    }

    // Ants that are off still tell the place that they were marked at.
    private void unmark() {
      for (int i = 0; i < size; i++) {
        leftsAt[ants[i].place] = 0;
        rightsAt[ants[i].place] = 0;
      }
    }

    private void handOver() {
      if (carrier == NONE || !ants[carrier].on) {
        return;
      }
      Ant a = ants[carrier];
      int facing = a.left == 1 ? rightsAt[a.place] : leftsAt[a.place];
      if (facing != 0) {
        // As many bits stand below the lowest one as its ant's number tells.
        carrier = Integer.bitCount((facing & -facing) - 1);
      }
    }

    // Marks stay as they were ahead of all turning, so that ants can be gone through one by one.
    private void meet() {
      for (int i = 0; i < size; i++) {
        Ant a = ants[i];
        if (a.on && leftsAt[a.place] != 0 && rightsAt[a.place] != 0) {
          metIn = beat;
          if (a.left == 1) {
            pairs += Integer.bitCount(rightsAt[a.place]);
          }
          meetAs(i, a);
        }
      }
    }

    private void meetAs(int i, Ant a) {
      boolean turning = false;
      if (!asThrough) {
        look(i, a);
        turning = a.turns() && rule.worth(TURN_PART, seen) != 0;
        a.heat += Math.max(0, Math.min(MOST_HEAT, rule.worth(HEAT_PART, seen)));
      }
      a.met++;
      if (turning) {
        a.turnRound();
      }
    }

    private void lookAtEnds() {
      for (int i = 0; i < size; i++) {
        Ant a = ants[i];
        if (a.on && a.place == (a.left == 1 ? 0 : 2 * knots)) {
          look(i, a);
          if (a.returns() || rule.worth(STAY_PART, seen) != 0) {
            a.turnRound();
            a.returned++;
          } else {
            a.leave(beat);
            still--;
          }
        }
      }
    }

    private void look(int i, Ant a) {
      seen[MEETS] = a.met;
      seen[PLACE] = a.place;
      seen[FACES_LEFT] = a.left;
      seen[BEAT] = beat;
      seen[OTHERS] = Integer.bitCount(leftsAt[a.place] | rightsAt[a.place]) - 1;
      seen[WHICH] = i;
    }

    /** The ant that comes next by places, of those on the plank whose bits aren't counted yet. */
    int nextByPlace(int counted) {
      int next = NONE;
      for (int i = 0; i < size; i++) {
        boolean open = ants[i].on && (counted >> i & 1) == 0;
        if (open && (next == NONE || ants[i].place < ants[next].place)) {
          next = i;
        }
      }
      return next;
    }

    boolean isAsNoted() {
      for (int i = 0; i < size; i++) {
        if (!ants[i].isAsNoted()) {
          return false;
        }
      }
      return true;
    }

    /** Where a way's row begins in offs; it is gone through first, unless it is known. */
    int rowOf(int way) {
      int row = way * MOST_ANTS;
      if (stamps[way] != stamp) {
        begin(way, false);
        // Nobody is ever off a ring.
        if (ring == 0) {
          goOn(LAST_BEAT);
        }
        for (int i = 0; i < size; i++) {
          offs[row + i] = ants[i].off;
        }
        stamps[way] = stamp;
      }
      return row;
    }

    /** The ant that is off last by a way, if all are. */
    int lastOf(int way) {
      int row = rowOf(way);
      int last = NONE;
      for (int i = 0; i < size; i++) {
        if (offs[row + i] == NONE) {
          return NONE;
        }
        if (last == NONE || offs[row + i] > offs[row + last]) {
          last = i;
        }
      }
      return last;
    }

    /** The beat in which the last ant is off by a way, if all are. */
    int latestOf(int way) {
      int row = rowOf(way);
      int latest = NONE;
      for (int i = 0; i < size; i++) {
        if (offs[row + i] == NONE) {
          return NONE;
        }
        latest = Math.max(latest, offs[row + i]);
      }
      return latest;
    }

    /** Whether as many ants are off in each beat as if they went through one another. */
    boolean isLikeThrough(int way) {
      int row = rowOf(way);
      begin(way, true);
      goOn(LAST_BEAT);
      for (int i = 0; i < size; i++) {
        int more = 0;
        for (int j = 0; j < size; j++) {
          more += offs[row + j] == ants[i].off ? 1 : 0;
          more -= ants[j].off == ants[i].off ? 1 : 0;
        }
        if (more != 0) {
          return false;
        }
      }
      return true;
    }
  }

  /** A text that was read: nodes, each of which works on what nodes ahead of it came to. */
  private static final class Rule {
    private final int[] signs;
    private final int[] firsts;
    private final int[] seconds;
    private final int[] roots;
    private final int[] worths;

    Rule(int[] signs, int[] firsts, int[] seconds, int[] roots, int nodes) {
      this.signs = Arrays.copyOf(signs, nodes);
      this.firsts = Arrays.copyOf(firsts, nodes);
      this.seconds = Arrays.copyOf(seconds, nodes);
      this.roots = Arrays.copyOf(roots, PARTS);
      this.worths = new int[nodes];
    }

    int worth(int part, int[] seen) {
      int first = part == 0 ? 0 : roots[part - 1] + 1;
      int root = roots[part];
      for (int k = first; k <= root; k++) {
        int x = firsts[k];
        switch (signs[k]) {
          case Tape.A_NUMBER:
            worths[k] = x;
            break;
          case Tape.A_NAME:
            worths[k] = seen[x];
            break;
          case Tape.NEGATED:
            worths[k] = -worths[x];
            break;
          case Tape.NOT:
            worths[k] = worths[x] == 0 ? 1 : 0;
            break;
          default:
            worths[k] = joined(signs[k], worths[x], worths[seconds[k]]);
            break;
        }
      }
      return worths[root];
    }

    private static int joined(int sign, int x, int y) {
      switch (sign) {
        case '+':
          return x + y;
        case '-':
          return x - y;
        case '*':
          return x * y;
        case '<':
          return x < y ? 1 : 0;
        case '=':
          return x == y ? 1 : 0;
        case Tape.AND:
          return x != 0 && y != 0 ? 1 : 0;
        default:
          return x != 0 || y != 0 ? 1 : 0;
      }
    }
  }

  /** The tape, and how a text is read from it. */
  private static final class Tape {
    // Tokens; a sign's is the sign itself, a key's its number among the words and FIRST_WORD.
    static final int END = 0, WRONG = 1, A_NUMBER = 2, A_NAME = 3, NEGATED = 4, FIRST_WORD = 5;
    static final int TURN = 5, STAY = 6, HEAT = 7, OR = 8, AND = 9, NOT = 10;
    private static final int KEYS = 6, WORDS = 12;

    int size;
    int fault;
    private final int[] bytes = new int[MOST_BYTES];
    private final int[] tokens = new int[MOST_BYTES + 1];
    private final int[] places = new int[MOST_BYTES + 1];
    private final int[] values = new int[MOST_BYTES + 1];
    private int tokenCount;
    private int next;
    private final int[] signs = new int[MOST_BYTES];
    private final int[] firsts = new int[MOST_BYTES];
    private final int[] seconds = new int[MOST_BYTES];
    private final int[] roots = new int[PARTS];
    private int nodes;

    boolean put(int letter) {
      if (size >= MOST_BYTES) {
        return false;
      }
      bytes[size] = letter;
      size++;
      return true;
    }

    /** The rule that stands on the tape; null, if there is a fault. */
    Rule read() {
      split();
      next = 0;
      nodes = 0;
      fault = NONE;
      readPart(TURN, TURN_PART);
      readPart(STAY, STAY_PART);
      readPart(HEAT, HEAT_PART);
      if (tokens[next] != END) {
        refuse();
      }
      return fault == NONE ? new Rule(signs, firsts, seconds, roots, nodes) : null;
    }

    private void split() {
      tokenCount = 0;
      int i = 0;
      for (int k = 0; k < size && i < size; k++) {
        if (bytes[i] == ' ' || bytes[i] == '\n') {
          i++;
        } else {
          i = splitOff(i);
        }
      }
      addToken(END, size, 0);
    }

    private int splitOff(int from) {
      int c = bytes[from];
      if (c >= 'a' && c <= 'z') {
        int to = behind(from, 'a', 'z');
        addWord(from, to);
        return to;
      }
      if (c >= '0' && c <= '9') {
        int to = behind(from, '0', '9');
        addNumber(from, to);
        return to;
      }
      addToken(isSign(c) ? c : WRONG, from, 0);
      return from + 1;
    }

    private int behind(int from, int low, int high) {
      int to = from;
      while (to < size && bytes[to] >= low && bytes[to] <= high) {
        to++;
      }
      return to;
    }

    private void addWord(int from, int to) {
      for (int w = 0; w < WORDS; w++) {
        if (stands(word(w), from, to)) {
          addToken(w < KEYS ? FIRST_WORD + w : A_NAME, from, w - KEYS);
          return;
        }
      }
      addToken(WRONG, from, 0);
    }

    private void addNumber(int from, int to) {
      int value = 0;
      for (int i = from; i < to; i++) {
        value = value * 10 + bytes[i] - '0';
      }
      addToken(to - from > MOST_DIGITS ? WRONG : A_NUMBER, from, value);
    }

    private void addToken(int token, int place, int value) {
      if (tokenCount < tokens.length) {
        tokens[tokenCount] = token;
        places[tokenCount] = place;
        values[tokenCount] = value;
        tokenCount++;
      }
    }

    private boolean stands(String word, int from, int to) {
      if (word.length() != to - from) {
        return false;
      }
      for (int i = from; i < to; i++) {
        if (bytes[i] != word.charAt(i - from)) {
          return false;
        }
      }
      return true;
    }

    // Keys come first, in the order of their tokens; names then, in the order of what is seen.
    private static String word(int w) {
      switch (w) {
        case 0:
          return "turn";
        case 1:
          return "stay";
        case 2:
          return "heat";
        case 3:
          return "or";
        case 4:
          return "and";
        case 5:
          return "not";
        case 6:
          return "meets";
        case 7:
          return "place";
        case 8:
          return "left";
        case 9:
          return "beat";
        case 10:
          return "others";
        default:
          return "number";
      }
    }

    private static boolean isSign(int c) {
      switch (c) {
        case '(':
        case ')':
        case ';':
        case '+':
        case '-':
        case '*':
        case '<':
        case '=':
          return true;
        default:
          return false;
      }
    }

    private void readPart(int key, int part) {
      need(key);
      roots[part] = readEither(0);
      need(';');
    }

    private int readEither(int open) {
      int x = readBoth(open);
      for (int k = 0; k < MOST_BYTES && takes(OR); k++) {
        x = node(OR, x, readBoth(open));
      }
      return x;
    }

    private int readBoth(int open) {
      int x = readNot(open);
      for (int k = 0; k < MOST_BYTES && takes(AND); k++) {
        x = node(AND, x, readNot(open));
      }
      return x;
    }

    private int readNot(int open) {
      if (tokens[next] == NOT) {
        if (open >= MOST_OPEN) {
          return refuse();
        }
        next++;
        return node(NOT, readNot(open + 1), 0);
      }
      int x = readSum(open);
      int sign = tokens[next];
      if (takes('<') || takes('=')) {
        return node(sign, x, readSum(open));
      }
      return x;
    }

    private int readSum(int open) {
      int x = readTerm(open);
      int sign = tokens[next];
      for (int k = 0; k < MOST_BYTES && (takes('+') || takes('-')); k++) {
        x = node(sign, x, readTerm(open));
        sign = tokens[next];
      }
      return x;
    }

    private int readTerm(int open) {
      int x = readOne(open);
      for (int k = 0; k < MOST_BYTES && takes('*'); k++) {
        x = node('*', x, readOne(open));
      }
      return x;
    }

    private int readOne(int open) {
      int token = tokens[next];
      if (token == A_NUMBER || token == A_NAME) {
        next++;
        return node(token, values[next - 1], 0);
      }
      if ((token != '-' && token != '(') || open >= MOST_OPEN) {
        return refuse();
      }
      next++;
      if (token == '-') {
        return node(NEGATED, readOne(open + 1), 0);
      }
      int x = readEither(open + 1);
      need(')');
      return x;
    }

    private boolean takes(int token) {
      if (tokens[next] != token) {
        return false;
      }
      next++;
      return true;
    }

    private void need(int token) {
      if (!takes(token)) {
        refuse();
      }
    }

    // Goes to the end, where no token can be taken any more: so the reading ends, and the first fault stays.
    private int refuse() {
      if (fault == NONE) {
        fault = places[next];
        next = tokenCount - 1;
      }
      return 0;
    }

    private int node(int sign, int x, int y) {
      if (nodes >= MOST_BYTES) {
        return 0;
      }
      signs[nodes] = sign;
      firsts[nodes] = x;
      seconds[nodes] = y;
      nodes++;
      return nodes - 1;
    }
  }

  /** A row of numbers of a sort, or missing. */
  private static final class Sheet {
    int sort = NONE;
    int size;
    final int[] cells = new int[MOST_CELLS];

    boolean isMissing() {
      return sort == NONE;
    }

    void become(int newSort, int n) {
      sort = newSort;
      size = n;
      Arrays.fill(cells, 0);
    }

    void write(int i, int v) {
      switch (sort) {
        case 0:
          cells[i] = (byte) v;
          break;
        case 1:
          cells[i] = (short) v;
          break;
        default:
          cells[i] = v;
          break;
      }
    }

    boolean has(int from, int n) {
      return from >= 0 && n >= 0 && from <= size && n <= size - from;
    }
  }
}
