import java.util.ArrayList;
import java.util.List;
import java.util.Random;

/** Runs of drawn calls, answered by the class and by the model. */
public final class ModelTest {
  private static final Due DUE = new Due("ModelTest");
  private static final String[] WORDS = {
    "1", "0", "2", "3", "7", "12", "9999", "12345", "meets", "place", "left", "beat", "others", "number", "turn", "stay",
    "heat", "or", "and", "not", "(", ")", ";", "+", "-", "*", "<", "=", "x", "?"
  };

  private final Random random;
  private final AntsTurn x = new AntsTurn();
  private final Model model = new Model();
  private final List<String> calls = new ArrayList<>();
  private int left = 512;
  private int dear;

  private ModelTest(long seed, int dear) {
    random = new Random(seed);
    this.dear = dear;
  }

  public static void main(String[] args) {
    int runs = args.length > 0 ? Integer.parseInt(args[0]) : 160;
    int first = args.length > 1 ? Integer.parseInt(args[1]) : 1;
    for (int run = first; run < first + runs; run++) {
      new ModelTest(run, 24).mixed();
      new ModelTest(run + 100_000, 0).texts();
    }
    DUE.end();
  }

  private int below(int n) {
    return random.nextInt(n);
  }

  /** Mostly of low .. high, at times next to it, at times far off. */
  private int about(int low, int high) {
    int k = below(60);
    if (k == 0) {
      return low - 1;
    }
    if (k == 1) {
      return high + 1;
    }
    if (k == 2) {
      return random.nextInt();
    }
    if (k == 3) {
      return random.nextBoolean() ? Integer.MIN_VALUE : Integer.MAX_VALUE;
    }
    return low + below(high - low + 1);
  }

  private void same(String call, long got, long want) {
    left--;
    calls.add(call + " = " + want);
    if (got != want) {
      System.out.println(String.join("\n", calls) + "\n" + model);
    }
    DUE.is(call, got, want);
  }

  private int anAnt() {
    return about(0, Math.max(0, model.ants.size() - 1));
  }

  private void mixed() {
    if (below(3) == 0) {
      int knots = 2 + below(6);
      same("plank", x.plank(0, knots), model.plank(0, knots));
    }
    int ants = below(8);
    for (int i = 0; i < ants; i++) {
      ant();
    }
    for (int k = below(3); k > 0; k--) {
      feed(goodText());
      text();
    }
    while (left > 200) {
      one();
    }
  }

  private void texts() {
    while (left > 170) {
      int how = below(4);
      String s = how == 0 ? goodText() : how == 1 ? wordy() : spoilt(goodText());
      feed(s.length() > 160 ? s.substring(0, 160) : s);
      text();
      if (model.texts.size() == 6) {
        return;
      }
    }
  }

  private void feed(String s) {
    for (int i = 0; i < s.length() && left > 10; i++) {
      int c = s.charAt(i);
      same("feed(" + c + ")", x.feed(c), model.feed(c));
    }
  }

  private void text() {
    String tape = model.tape.toString();
    same("text() of '" + tape + "'", x.text(), model.text());
    int text = about(0, model.texts.size() - 1);
    same("force(" + text + ")", x.force(text), model.force(text));
  }

  private String goodText() {
    String stay = below(3) == 0 ? "0" : expression(3, 0);
    String s = "turn " + expression(3, 0) + ";stay " + stay + ";heat " + expression(3, 0) + ";";
    return s.length() <= 160 ? s : "turn not (others<2);stay meets=number;heat place-beat;";
  }

  private String expression(int depth, int open) {
    int k = below(depth <= 0 ? 4 : 14);
    String gap = below(4) == 0 ? "\n" : " ";
    if (k < 2) {
      return WORDS[below(6)];
    }
    if (k < 4) {
      return WORDS[8 + below(6)];
    }
    if (k == 4 && open < 5) {
      return "(not" + gap + expression(depth - 1, open + 2) + ")";
    }
    if (k == 5 && open < 4) {
      return "-(" + expression(depth - 1, open + 2) + ")";
    }
    if (k < 9 && open < 5) {
      return "(" + expression(depth - 1, open + 1) + ")";
    }
    String[] signs = {"+", "-", "*", "<", "=", " or ", " and ", "+", "<"};
    return expression(depth - 1, open) + signs[below(signs.length)] + expression(depth - 1, open);
  }

  private String spoilt(String s) {
    StringBuilder b = new StringBuilder(s);
    for (int k = 1 + below(3); k > 0 && b.length() > 0; k--) {
      int at = below(b.length());
      switch (below(4)) {
        case 0:
          b.deleteCharAt(at);
          break;
        case 1:
          b.insert(at, WORDS[below(WORDS.length)]);
          break;
        case 2:
          b.insert(at, "((((not not -----".substring(below(16)));
          break;
        default:
          b.setCharAt(at, (char) (below(3) == 0 ? below(256) : " ;()-+a1".charAt(below(8))));
          break;
      }
    }
    return b.toString();
  }

  private String wordy() {
    StringBuilder b = new StringBuilder("turn ");
    for (int k = below(30); k > 0; k--) {
      b.append(WORDS[below(WORDS.length)]).append(below(3) == 0 ? "" : " ");
    }
    return b.toString();
  }

  private void ant() {
    int kind = about(0, 5);
    int what = below(30) == 0 ? about(-50, 1200) : 100 * about(1, model.knots - 1) + 10 * below(2) + below(10);
    int start = below(2) == 0 ? 0 : about(0, 20);
    same("ant(" + kind + ", " + what + ", " + start + ")", x.ant(kind, what, start), model.ant(kind, what, start));
  }

  private void one() {
    int k = below(34);
    if (k >= 25 && dear-- <= 0) {
      k = below(25);
    }
    if (k < 8) {
      change(k);
    } else if (k < 17) {
      look(k);
    } else if (k < 25) {
      host(k);
    } else {
      ways(k);
    }
  }

  private void change(int k) {
    int ant = anAnt();
    int what = about(0, 3);
    switch (k) {
      case 0:
        what = about(0, 1);
        int v = what == 1 ? about(0, 1) : below(2) == 0 ? about(2, 12) : about(2, 40);
        same("plank(" + what + ", " + v + ")", x.plank(what, v), model.plank(what, v));
        break;
      case 1:
        ant();
        break;
      case 2:
      case 3:
        int w = what == 0 ? about(1, model.knots - 1) : what == 1 ? about(0, 1) : what == 2 ? about(0, 20) : about(0, 9);
        same("set(" + ant + ", " + what + ", " + w + ")", x.set(ant, what, w), model.set(ant, what, w));
        break;
      case 4:
        int text = about(0, model.texts.size() - 1);
        same("force(" + text + ")", x.force(text), model.force(text));
        break;
      case 5:
        if (below(3) == 0) {
          same("image()", x.image(), model.image());
        } else {
          same("back()", x.back(), model.back());
        }
        break;
      default:
        int byte8 = about(0, 255);
        same("feed(" + byte8 + ")", x.feed(byte8), model.feed(byte8));
        break;
    }
  }

  private void look(int k) {
    int ant = anAnt();
    int beat = below(2) == 0 ? about(0, 40) : about(0, 200);
    int what;
    switch (k) {
      case 8:
        what = about(0, 5);
        same("told(" + ant + ", " + what + ")", x.told(ant, what), model.told(ant, what));
        break;
      case 9:
        what = about(0, 4);
        same("of(" + ant + ", " + what + ")", x.of(ant, what), model.of(ant, what));
        break;
      case 10:
        what = about(0, 1);
        same("at(" + ant + ", " + beat + ", " + what + ")", x.at(ant, beat, what), model.at(ant, beat, what));
        break;
      case 11:
        what = about(0, 1);
        same("last(" + what + ")", x.last(what), model.last(what));
        break;
      case 12:
        same("order(" + beat + ")", x.order(beat), model.order(beat));
        break;
      case 13:
        same("tilt(" + beat + ")", x.tilt(beat), model.tilt(beat));
        break;
      case 14:
        what = about(0, 2);
        same("through(" + ant + ", " + what + ")", x.through(ant, what), model.through(ant, what));
        break;
      case 15:
        what = about(0, 1);
        same("carried(" + ant + ", " + what + ")", x.carried(ant, what), model.carried(ant, what));
        break;
      default:
        what = about(0, 5);
        same("count(" + what + ")", x.count(what), model.count(what));
        same("taken(" + ant + ", " + what + ")", x.taken(ant, what), model.taken(ant, what));
        break;
    }
  }

  private void host(int k) {
    int sheet = about(0, 3);
    int other = below(2) == 0 ? sheet : about(0, 3);
    int sort = about(-1, 2);
    int i = about(0, 9);
    int j = about(0, 9);
    int n = about(0, 7);
    switch (k) {
      case 17:
        int size = below(6) == 0 ? about(0, 40) : about(0, 12);
        same("sheet(" + sheet + ", " + sort + ", " + size + ")", x.sheet(sheet, sort, size), model.sheet(sheet, sort, size));
        break;
      case 18:
      case 19:
        int v = below(3) == 0 ? about(-300, 300) : about(0, 900);
        same("cell(" + sheet + ", " + i + ", " + v + ")", x.cell(sheet, i, v), model.cell(sheet, i, v));
        break;
      case 20:
        same("copy(" + sheet + ", " + i + ", " + other + ", " + j + ", " + n + ")",
            x.copy(sheet, i, other, j, n), model.copy(sheet, i, other, j, n));
        break;
      case 21:
        triples(sheet);
        break;
      case 22:
        int as = below(4) == 0 || sheet < 0 || sheet > 3 ? sort : model.sorts[sheet];
        same("ants(" + sheet + ", " + as + ", " + i + ", " + n + ")", x.ants(sheet, as, i, n), model.ants(sheet, as, i, n));
        break;
      case 23:
        same("round()", x.round(), model.round());
        break;
      default:
        int seed = random.nextInt();
        same("drawn(" + seed + ")", x.drawn(seed), model.drawn(seed));
        break;
    }
  }

  private void triples(int sheet) {
    for (int i = 0; i < 9; i++) {
      int v = i % 3 == 0 ? below(6) : i % 3 == 1 ? 100 + below(120) : below(6);
      same("cell(" + sheet + ", " + i + ", " + v + ")", x.cell(sheet, i, v), model.cell(sheet, i, v));
    }
  }

  private void ways(int k) {
    int ant = anAnt();
    int what = about(0, 1);
    switch (k) {
      case 25:
        same("soonest(" + what + ")", x.soonest(what), model.soonest(what));
        break;
      case 26:
      case 27:
        same("beLast(" + ant + ", " + what + ")", x.beLast(ant, what), model.beLast(ant, what));
        break;
      case 28:
        same("longest(" + ant + ", " + what + ")", x.longest(ant, what), model.longest(ant, what));
        break;
      case 29:
      case 30:
        int beat = below(2) == 0 ? about(0, 60) : about(0, 200);
        same("byThen(" + beat + ", " + what + ")", x.byThen(beat, what), model.byThen(beat, what));
        break;
      case 31:
        fits(about(0, 3), about(0, 1), what);
        break;
      default:
        asSomeWay(below(2), what);
        break;
    }
  }

  private void fits(int sheet, int sight, int what) {
    same("fits(" + sheet + ", " + sight + ", " + what + ")", x.fits(sheet, sight, what), model.fits(sheet, sight, what));
  }

  /** Writes down what comes of some way, so that there is a way that fits. */
  private void asSomeWay(int sight, int what) {
    Model.Walk walk = model.walk(below(1 << model.ants.size()), false, -1);
    List<Integer> row = new ArrayList<>(walk.heard);
    if (sight == 0) {
      row.clear();
      for (Model.Walker w : walk.end()) {
        row.add(w.off);
      }
    }
    if (row.size() > 40 || left < 60) {
      return;
    }
    int sheet = below(4);
    int sort = below(3);
    same("sheet(" + sheet + ", " + sort + ", " + row.size() + ")",
        x.sheet(sheet, sort, row.size()), model.sheet(sheet, sort, row.size()));
    for (int i = 0; i < row.size(); i++) {
      int v = row.get(i);
      same("cell(" + sheet + ", " + i + ", " + v + ")", x.cell(sheet, i, v), model.cell(sheet, i, v));
    }
    fits(sheet, sight, what);
  }
}
