import java.util.ArrayList;
import java.util.Arrays;
import java.util.Collections;
import java.util.List;

/** The document once more, as plainly as it can be said and by other means, to be held against the class. */
final class Model {
  static final class Ant {
    int kind;
    int knot;
    int left;
    int start;
    int number;

    Ant copy() {
      Ant a = new Ant();
      a.kind = kind;
      a.knot = knot;
      a.left = left;
      a.start = start;
      a.number = number;
      return a;
    }
  }

  /** One ant in a walk. */
  static final class Walker {
    boolean on;
    int place;
    boolean left;
    int met;
    int turned;
    int atEnds;
    int heat;
    int off = -1;
    int end = -1;

    Walker copy() {
      Walker w = new Walker();
      w.on = on;
      w.place = place;
      w.left = left;
      w.met = met;
      w.turned = turned;
      w.atEnds = atEnds;
      w.heat = heat;
      w.off = off;
      w.end = end;
      return w;
    }
  }

  /** All that was seen of a walk. */
  static final class Walk {
    List<List<Walker>> beats = new ArrayList<>();
    List<Integer> heard = new ArrayList<>();
    int pairs;
    int carrier;

    List<Walker> end() {
      return beats.get(200);
    }
  }

  static final class Token {
    final String word;
    final int place;

    Token(String word, int place) {
      this.word = word;
      this.place = place;
    }
  }

  static final List<String> KEYS = List.of("turn", "stay", "heat", "or", "and", "not");
  static final List<String> NAMES = List.of("meets", "place", "left", "beat", "others", "number");

  int knots = 10;
  int ring;
  List<Ant> ants = new ArrayList<>();
  List<List<List<String>>> texts = new ArrayList<>();
  int rule;
  StringBuilder tape = new StringBuilder();
  List<Integer>[] sheets = newSheets();
  int[] sorts = {-1, -1, -1, -1};
  boolean kept;
  int keptKnots;
  int keptRing;
  int keptRule;
  List<Ant> keptAnts;

  Model() {
    for (char c : "turn 1 ; stay 0 ; heat others ;".toCharArray()) {
      tape.append(c);
    }
    text();
  }

  @SuppressWarnings("unchecked")
  private static List<Integer>[] newSheets() {
    return new List[4];
  }

  private static boolean in(int v, int low, int high) {
    return low <= v && v <= high;
  }

  private boolean isAnt(int i) {
    return in(i, 0, ants.size() - 1);
  }

  int plank(int what, int v) {
    if (!(what == 0 && in(v, 2, 40)) && !(what == 1 && in(v, 0, 1))) {
      return -2;
    }
    if (what == 1) {
      int was = ring;
      ring = v;
      return was;
    }
    if (ants.stream().anyMatch(a -> a.knot > v - 1)) {
      return -3;
    }
    int was = knots;
    knots = v;
    return was;
  }

  int ant(int kind, int what, int start) {
    for (int knot = 1; knot < knots; knot++) {
      for (int left = 0; left < 2; left++) {
        for (int number = 0; number < 10; number++) {
          if (100 * knot + 10 * left + number == what && in(kind, 0, 5) && in(start, 0, 20)) {
            if (ants.size() == 7) {
              return -4;
            }
            Ant a = new Ant();
            a.kind = kind;
            a.knot = knot;
            a.left = left;
            a.start = start;
            a.number = number;
            ants.add(a);
            return ants.size() - 1;
          }
        }
      }
    }
    return -2;
  }

  int set(int ant, int what, int v) {
    int[] low = {1, 0, 0, 0};
    int[] high = {knots - 1, 1, 20, 9};
    if (!isAnt(ant) || !in(what, 0, 3) || !in(v, low[what], high[what])) {
      return -2;
    }
    int was = told(ant, what);
    Ant a = ants.get(ant);
    if (what == 0) {
      a.knot = v;
    } else if (what == 1) {
      a.left = v;
    } else if (what == 2) {
      a.start = v;
    } else {
      a.number = v;
    }
    return was;
  }

  int told(int ant, int what) {
    if (!isAnt(ant) || !in(what, 0, 5)) {
      return -2;
    }
    Ant a = ants.get(ant);
    return new int[] {a.knot, a.left, a.start, a.number, a.kind, weight(a)}[what];
  }

  static int weight(Ant a) {
    int n = a.number;
    return new int[] {n, n + 1, n / 2, 2 * (n + 1), n / 2 + 3, n / 2 + n}[a.kind];
  }

  int feed(int letter) {
    if (!in(letter, 0, 255)) {
      return -2;
    }
    if (tape.length() == 160) {
      return -4;
    }
    tape.append((char) letter);
    return tape.length();
  }

  int text() {
    if (texts.size() == 6) {
      return -4;
    }
    String s = tape.toString();
    tape.setLength(0);
    List<Token> tokens = split(s);
    List<List<String>> parts = new ArrayList<>();
    int fault = fault(tokens, s.length(), parts);
    if (fault >= 0) {
      return -100 - fault;
    }
    texts.add(parts);
    return texts.size() - 1;
  }

  /** Tokens by one pattern; what is no token at all comes as a byte of its own. */
  private static List<Token> split(String s) {
    List<Token> tokens = new ArrayList<>();
    java.util.regex.Matcher m = java.util.regex.Pattern.compile("[a-z]+|[0-9]+|[ \n]+|(?s:.)").matcher(s);
    while (m.find()) {
      if (!m.group().matches("[ \n]+")) {
        tokens.add(new Token(m.group(), m.start()));
      }
    }
    return tokens;
  }

  /** Goes through tokens by what may follow what, without calling itself. */
  private static int fault(List<Token> tokens, int size, List<List<String>> parts) {
    int part = 0;
    boolean key = true;
    boolean operand = true;
    boolean notMay = true;
    boolean compared = false;
    int nots = 0;
    int minuses = 0;
    List<int[]> outer = new ArrayList<>();
    List<String> now = new ArrayList<>();
    for (Token t : tokens) {
      String w = t.word;
      if (part == 3) {
        return t.place;
      }
      int open = nots + minuses + outer.size();
      for (int[] o : outer) {
        open += o[0] + o[1];
      }
      if (key) {
        if (!w.equals(KEYS.get(part))) {
          return t.place;
        }
        key = false;
        operand = true;
        notMay = true;
        compared = false;
        nots = 0;
        continue;
      }
      now.add(w);
      if (operand) {
        if (NAMES.contains(w) || w.matches("[0-9]{1,4}")) {
          operand = false;
          minuses = 0;
        } else if (w.equals("-") && open < 5) {
          minuses++;
          notMay = false;
        } else if (w.equals("(") && open < 5) {
          outer.add(new int[] {nots, minuses, compared ? 1 : 0});
          nots = 0;
          minuses = 0;
          compared = false;
          notMay = true;
        } else if (w.equals("not") && notMay && open < 5) {
          nots++;
        } else {
          return t.place;
        }
      } else if (w.equals("*") || w.equals("+") || w.equals("-")) {
        operand = true;
        notMay = false;
      } else if ((w.equals("<") || w.equals("=")) && !compared) {
        operand = true;
        notMay = false;
        compared = true;
      } else if (w.equals("and") || w.equals("or")) {
        operand = true;
        notMay = true;
        compared = false;
        nots = 0;
      } else if (w.equals(")") && !outer.isEmpty()) {
        int[] o = outer.remove(outer.size() - 1);
        nots = o[0];
        minuses = 0;
        compared = o[2] == 1;
      } else if (w.equals(";") && outer.isEmpty()) {
        now.remove(now.size() - 1);
        parts.add(now);
        now = new ArrayList<>();
        part++;
        key = true;
      } else {
        return t.place;
      }
    }
    return part == 3 ? -1 : size;
  }

  /** What an E comes to: cut in two where what binds least stands outside of brackets. */
  private static int worth(List<String> e, int[] names) {
    for (String sign : List.of("or", "and")) {
      int at = lastOutside(e, List.of(sign));
      if (at >= 0) {
        boolean x = worth(e.subList(0, at), names) != 0;
        boolean y = worth(e.subList(at + 1, e.size()), names) != 0;
        return (sign.equals("or") ? x || y : x && y) ? 1 : 0;
      }
    }
    if (e.get(0).equals("not")) {
      return worth(e.subList(1, e.size()), names) == 0 ? 1 : 0;
    }
    for (List<String> signs : List.of(List.of("<", "="), List.of("+", "-"), List.of("*"))) {
      int at = lastOutside(e, signs);
      if (at >= 0) {
        int x = worth(e.subList(0, at), names);
        int y = worth(e.subList(at + 1, e.size()), names);
        switch (e.get(at)) {
          case "<":
            return x < y ? 1 : 0;
          case "=":
            return x == y ? 1 : 0;
          case "+":
            return x + y;
          case "-":
            return x - y;
          default:
            return x * y;
        }
      }
    }
    if (e.get(0).equals("-")) {
      return -worth(e.subList(1, e.size()), names);
    }
    if (e.get(0).equals("(")) {
      return worth(e.subList(1, e.size() - 1), names);
    }
    int name = NAMES.indexOf(e.get(0));
    return name >= 0 ? names[name] : Integer.parseInt(e.get(0));
  }

  private static int lastOutside(List<String> e, List<String> signs) {
    int depth = 0;
    for (int i = e.size() - 1; i > 0; i--) {
      depth += e.get(i).equals(")") ? 1 : e.get(i).equals("(") ? -1 : 0;
      boolean joins = !List.of("-", "+", "*", "<", "=", "(", "and", "or", "not").contains(e.get(i - 1));
      if (depth == 0 && joins && signs.contains(e.get(i))) {
        return i;
      }
    }
    return -1;
  }

  int force(int text) {
    if (!in(text, 0, texts.size() - 1)) {
      return -2;
    }
    int was = rule;
    rule = text;
    return was;
  }

  private static boolean turns(Ant a, int m) {
    switch (a.kind) {
      case 1:
        return false;
      case 3:
        return m < a.number;
      case 4:
        return m != a.number;
      default:
        return true;
    }
  }

  private static boolean backs(Ant a, int e) {
    switch (a.kind) {
      case 2:
        return e < a.number;
      case 4:
        return e < a.number || e == 0;
      case 5:
        return e < a.number && e % 2 == 0;
      default:
        return false;
    }
  }

  private int part(int part, List<Walker> all, int i, int beat) {
    Walker w = all.get(i);
    int others = 0;
    for (int j = 0; j < all.size(); j++) {
      others += j != i && all.get(j).on && all.get(j).place == w.place ? 1 : 0;
    }
    return worth(texts.get(rule).get(part), new int[] {w.met, w.place, w.left ? 1 : 0, beat, others, i});
  }

  private int wayAsTold() {
    int way = 0;
    for (int i = 0; i < ants.size(); i++) {
      way += ants.get(i).left << i;
    }
    return way;
  }

  Walk walk(int way, boolean through, int carrier) {
    Walk walk = new Walk();
    walk.carrier = carrier;
    List<Walker> all = new ArrayList<>();
    for (int i = 0; i < ants.size(); i++) {
      Walker w = new Walker();
      w.left = (way >> i) % 2 == 1;
      all.add(w);
    }
    for (int beat = 0; beat <= 200; beat++) {
      for (int i = 0; i < all.size(); i++) {
        Walker w = all.get(i);
        if (w.on) {
          w.place += w.left ? -1 : 1;
          if (ring == 1) {
            w.place = Math.floorMod(w.place, 2 * knots);
          }
        }
        if (beat == 2 * ants.get(i).start) {
          w.on = true;
          w.place = 2 * ants.get(i).knot;
        }
      }
      meet(walk, all, beat, through);
      if (ring == 0) {
        ends(all, beat);
      }
      List<Walker> seen = new ArrayList<>();
      for (Walker w : all) {
        seen.add(w.copy());
      }
      walk.beats.add(seen);
    }
    return walk;
  }

  private void meet(Walk walk, List<Walker> all, int beat, boolean through) {
    int n = all.size();
    boolean[] meets = new boolean[n];
    boolean[] turning = new boolean[n];
    int carrier = walk.carrier;
    for (int i = 0; i < n; i++) {
      for (int j = n - 1; j >= 0; j--) {
        Walker v = all.get(i);
        Walker w = all.get(j);
        if (v.on && w.on && v.place == w.place && v.left != w.left) {
          meets[i] = true;
          walk.pairs += i < j ? 1 : 0;
          if (i == walk.carrier) {
            carrier = j;
          }
        }
      }
    }
    walk.carrier = carrier;
    // What face likewise at a place where some face otherwise meet, too: each of them has one that faces otherwise.
    for (int i = 0; i < n; i++) {
      if (meets[i]) {
        turning[i] = !through && turns(ants.get(i), all.get(i).met) && part(0, all, i, beat) != 0;
        all.get(i).heat += Math.min(99, Math.max(0, part(2, all, i, beat)));
      }
    }
    boolean any = false;
    for (int i = 0; i < n; i++) {
      any |= meets[i];
      all.get(i).met += meets[i] ? 1 : 0;
      all.get(i).turned += turning[i] ? 1 : 0;
      all.get(i).left ^= turning[i];
    }
    if (any) {
      walk.heard.add(beat);
    }
  }

  private void ends(List<Walker> all, int beat) {
    int n = all.size();
    int[] does = new int[n];
    for (int i = 0; i < n; i++) {
      Walker w = all.get(i);
      if (w.on && ((w.left && w.place == 0) || (!w.left && w.place == 2 * knots))) {
        does[i] = backs(ants.get(i), w.atEnds) || part(1, all, i, beat) != 0 ? 1 : 2;
      }
    }
    for (int i = 0; i < n; i++) {
      Walker w = all.get(i);
      if (does[i] == 1) {
        w.left = !w.left;
        w.turned++;
        w.atEnds++;
      } else if (does[i] == 2) {
        w.on = false;
        w.off = beat;
        w.end = w.place == 0 ? 0 : 1;
      }
    }
  }

  private Walk asTold() {
    return walk(wayAsTold(), false, -1);
  }

  int of(int ant, int what) {
    if (!isAnt(ant) || !in(what, 0, 4)) {
      return -100000;
    }
    Walker w = asTold().end().get(ant);
    return new int[] {w.off, w.end, w.met, w.turned, w.heat}[what];
  }

  int at(int ant, int beat, int what) {
    if (!isAnt(ant) || !in(beat, 0, 200) || !in(what, 0, 1)) {
      return -2;
    }
    Walker w = asTold().beats.get(beat).get(ant);
    return !w.on ? -1 : what == 0 ? w.place : w.left ? 1 : 0;
  }

  private List<Integer> offs(int way, boolean through) {
    List<Integer> offs = new ArrayList<>();
    for (Walker w : walk(way, through, -1).end()) {
      offs.add(w.off);
    }
    return offs;
  }

  private List<List<Integer>> allOffs() {
    List<List<Integer>> all = new ArrayList<>();
    for (int way = 0; way < 1 << ants.size(); way++) {
      all.add(offs(way, false));
    }
    return all;
  }

  private static int lastOf(List<Integer> offs) {
    return offs.isEmpty() || offs.contains(-1) ? -1 : offs.indexOf(Collections.max(offs));
  }

  private static int latestOf(List<Integer> offs) {
    return offs.isEmpty() || offs.contains(-1) ? -1 : Collections.max(offs);
  }

  int last(int what) {
    if (!in(what, 0, 1)) {
      return -2;
    }
    List<Integer> offs = offs(wayAsTold(), false);
    return what == 0 ? lastOf(offs) : latestOf(offs);
  }

  int order(int beat) {
    if (!in(beat, 0, 200)) {
      return -2;
    }
    List<Walker> all = asTold().beats.get(beat);
    int digits = 0;
    for (int place = 0; place <= 2 * knots; place++) {
      for (int i = 0; i < all.size(); i++) {
        if (all.get(i).on && all.get(i).place == place) {
          digits = 10 * digits + i + 1;
        }
      }
    }
    return digits;
  }

  int tilt(int beat) {
    if (!in(beat, 0, 200)) {
      return -100000;
    }
    List<Walker> all = asTold().beats.get(beat);
    int sum = 0;
    for (int i = 0; i < all.size(); i++) {
      if (all.get(i).on && all.get(i).place < knots) {
        sum += weight(ants.get(i));
      } else if (all.get(i).on && all.get(i).place > knots) {
        sum -= weight(ants.get(i));
      }
    }
    return sum;
  }

  int through(int ant, int what) {
    if (!in(what, 0, 2) || (what == 0 && !isAnt(ant))) {
      return -2;
    }
    if (what == 0) {
      return offs(wayAsTold(), true).get(ant);
    }
    if (what == 1) {
      return walk(wayAsTold(), true, -1).pairs;
    }
    List<Integer> one = offs(wayAsTold(), false);
    List<Integer> other = offs(wayAsTold(), true);
    Collections.sort(one);
    Collections.sort(other);
    return one.equals(other) ? 1 : 0;
  }

  int soonest(int what) {
    if (!in(what, 0, 1)) {
      return -2;
    }
    List<List<Integer>> all = allOffs();
    for (int beat = 0; beat <= 200; beat++) {
      for (int way = 0; way < all.size(); way++) {
        if (latestOf(all.get(way)) == beat) {
          return what == 0 ? way : beat;
        }
      }
    }
    return -1;
  }

  private static int told(List<Integer> ways, int what) {
    return what == 0 ? ways.size() : ways.isEmpty() ? -1 : Collections.min(ways);
  }

  int beLast(int ant, int what) {
    if (!isAnt(ant) || !in(what, 0, 1)) {
      return -2;
    }
    List<List<Integer>> all = allOffs();
    List<Integer> ways = new ArrayList<>();
    for (int way = 0; way < all.size(); way++) {
      if (lastOf(all.get(way)) == ant) {
        ways.add(way);
      }
    }
    return told(ways, what);
  }

  int longest(int ant, int what) {
    if (!isAnt(ant) || !in(what, 0, 1)) {
      return -2;
    }
    List<List<Integer>> all = allOffs();
    for (int beat = 200; beat >= 0; beat--) {
      for (int way = 0; way < all.size(); way++) {
        if (all.get(way).get(ant) == beat) {
          return what == 0 ? way : beat;
        }
      }
    }
    return -1;
  }

  int fits(int sheet, int sight, int what) {
    if (!in(sheet, 0, 3) || !in(sight, 0, 1) || !in(what, 0, 1)) {
      return -2;
    }
    if (sheets[sheet] == null) {
      return -11;
    }
    if (sight == 0 && sheets[sheet].size() != ants.size()) {
      return -2;
    }
    List<Integer> ways = new ArrayList<>();
    for (int way = 0; way < 1 << ants.size(); way++) {
      Walk walk = walk(way, false, -1);
      List<Integer> offs = new ArrayList<>();
      for (Walker w : walk.end()) {
        offs.add(w.off);
      }
      if (sheets[sheet].equals(sight == 0 ? offs : walk.heard)) {
        ways.add(way);
      }
    }
    return told(ways, what);
  }

  long byThen(int beat, int part) {
    if (!in(beat, 0, 200) || !in(part, 0, 1)) {
      return -4611686018427387904L;
    }
    long above = 0;
    long below = 0;
    for (List<Integer> offs : allOffs()) {
      below++;
      boolean by = true;
      for (int off : offs) {
        by = by && off != -1 && off <= beat;
      }
      above += by ? 1 : 0;
    }
    long common = java.math.BigInteger.valueOf(above).gcd(java.math.BigInteger.valueOf(below)).longValue();
    return (part == 0 ? above : below) / common;
  }

  int carried(int ant, int what) {
    if (!isAnt(ant) || !in(what, 0, 1)) {
      return -2;
    }
    Walk walk = walk(wayAsTold(), false, ant);
    return what == 0 ? walk.carrier : walk.end().get(walk.carrier).off;
  }

  int round() {
    if (ring == 0) {
      return -3;
    }
    Walk walk = asTold();
    for (int n = 1; n <= 160; n++) {
      boolean same = true;
      for (int i = 0; i < ants.size(); i++) {
        Walker v = walk.beats.get(40).get(i);
        Walker w = walk.beats.get(40 + n).get(i);
        same = same && v.place == w.place && v.left == w.left;
      }
      if (same) {
        return n;
      }
    }
    return -1;
  }

  int drawn(int seed) {
    java.math.BigInteger z = java.math.BigInteger.valueOf(seed);
    int way = 0;
    for (int i = 0; i < ants.size(); i++) {
      z = z.multiply(java.math.BigInteger.valueOf(1103515245)).add(java.math.BigInteger.valueOf(12345));
      way += z.testBit(7) ? 1 << i : 0;
    }
    return latestOf(offs(way, false));
  }

  int image() {
    kept = true;
    keptKnots = knots;
    keptRing = ring;
    keptRule = rule;
    keptAnts = new ArrayList<>();
    for (Ant a : ants) {
      keptAnts.add(a.copy());
    }
    return ants.size();
  }

  int back() {
    if (!kept) {
      return -3;
    }
    knots = keptKnots;
    ring = keptRing;
    rule = keptRule;
    ants = new ArrayList<>();
    for (Ant a : keptAnts) {
      ants.add(a.copy());
    }
    return ants.size();
  }

  int count(int what) {
    return in(what, 0, 5) ? new int[] {ants.size(), knots, ring, texts.size(), tape.length(), rule}[what] : -2;
  }

  int sheet(int sheet, int sort, int n) {
    if (!in(sheet, 0, 3) || !in(sort, -1, 2)) {
      return -2;
    }
    if (sort == -1) {
      sheets[sheet] = null;
      sorts[sheet] = -1;
      return 1;
    }
    if (n > 40) {
      return -2;
    }
    if (n < 0) {
      return -14;
    }
    sheets[sheet] = new ArrayList<>(Collections.nCopies(n, 0));
    sorts[sheet] = sort;
    return 1;
  }

  int cell(int sheet, int i, int v) {
    if (!in(sheet, 0, 3)) {
      return -2;
    }
    if (sheets[sheet] == null) {
      return -11;
    }
    if (!in(i, 0, sheets[sheet].size() - 1)) {
      return -12;
    }
    int bits = 32 - (8 << sorts[sheet]);
    sheets[sheet].set(i, v << bits >> bits);
    return 1;
  }

  int copy(int sheet, int i, int other, int j, int n) {
    if (!in(sheet, 0, 3) || !in(other, 0, 3)) {
      return -2;
    }
    List<Integer> from = sheets[sheet];
    List<Integer> to = sheets[other];
    if (from == null || to == null) {
      return -11;
    }
    if (sorts[sheet] != sorts[other]) {
      return -13;
    }
    if (i < 0 || j < 0 || n < 0 || (long) i + n > from.size() || (long) j + n > to.size()) {
      return -12;
    }
    Integer[] some = from.subList(i, i + n).toArray(new Integer[0]);
    for (int k = 0; k < n; k++) {
      to.set(j + k, some[k]);
    }
    return n;
  }

  int ants(int sheet, int sort, int from, int n) {
    if (!in(sheet, 0, 3) || !in(sort, 0, 2) || !in(n, 0, 7)) {
      return -2;
    }
    if (sheets[sheet] == null) {
      return -11;
    }
    if (sorts[sheet] != sort) {
      return -13;
    }
    int came = 0;
    for (int k = 0; k < n; k++) {
      int[] three = new int[3];
      for (int t = 0; t < 3; t++) {
        long i = (long) from + 3 * k + t;
        if (i < 0 || i >= sheets[sheet].size()) {
          return -12;
        }
        three[t] = sheets[sheet].get((int) i);
      }
      came += ant(three[0], three[1], three[2]) >= 0 ? 1 : 0;
    }
    return came;
  }

  int taken(int ant, int k) {
    if (!in(k, 0, 5)) {
      return -2;
    }
    if (!isAnt(ant)) {
      return -11;
    }
    int[] above = {-1, 0, 0, 1, 2, 2};
    for (int kind = ants.get(ant).kind; kind >= 0; kind = above[kind]) {
      if (kind == k) {
        return ants.get(ant).number;
      }
    }
    return -13;
  }

  @Override
  public String toString() {
    return "LONG " + knots + " RING " + ring + " ants " + ants.size() + " rule " + texts.get(rule)
        + " sheets " + Arrays.toString(sheets);
  }
}
