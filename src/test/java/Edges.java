import java.io.IOException;
import java.nio.file.Files;
import java.nio.file.Path;

/** Tests by sentences of the document: each is named before it is tested, and none may be left out. */
final class Edges {
  private static final int PROMISES = 30;

  /** One call on an object. */
  interface Call {
    long on(AntsTurn x);
  }

  private final Due due;
  private final Sentences whole;
  private final Sentences terms;
  private final Sentences[] promises = new Sentences[PROMISES + 1];
  private String now = "";
  private int looked = 1;

  Edges(String name, Path document) throws IOException {
    due = new Due(name);
    String text = Files.readString(document);
    whole = new Sentences("the document", text);
    terms = new Sentences("Terms", termsOf(text));
    for (int n = 1; n <= PROMISES; n++) {
      promises[n] = new Sentences("promise " + n, promiseOf(text, n));
    }
  }

  /** The terms up to what the interface says, without the marks that stand around them. */
  private static String termsOf(String text) {
    String t = between(text, "## Terms", "Ahead of the calls");
    return t.replace("```text", " ").replace("```", " ").replaceAll("==== \\d ", " ");
  }

  /** What stands under a promise's head, behind the face of its call. */
  private static String promiseOf(String text, int n) {
    String body = between(text, "## Promise " + n + ": ", "\n## ");
    return body.substring(body.indexOf("`: ") + 3);
  }

  private static String between(String text, String head, String end) {
    int from = text.indexOf(head) + head.length();
    return text.substring(from, text.indexOf(end, from));
  }

  /** What is tested from here on: words that stand under the promise's head, or in what goes for all. */
  void says(int promise, String words) {
    mustHaveLooked();
    now = "promise " + promise + ", " + words;
    looked = 0;
    boolean stands = promises[promise].name(words) || terms.name(words) || whole.name(words);
    if (!stands) {
      due.holds("'" + words + "' stands in the document", false);
    }
    promises[promise].tests++;
  }

  void is(String call, long got, long want) {
    looked++;
    due.is(now + ": " + call, got, want);
  }

  /** A call on an object that has gone through what the scene tells: what it answers, and that all stays as it was. */
  void stays(Scene scene, String call, Call c, long want) {
    AntsTurn x = scene.make();
    is(call + " on " + scene, c.on(x), want);
    String got = scene.probe(x);
    String due = scene.probe(scene.make());
    if (!got.equals(due)) {
      System.out.println("behind " + call + "\n" + got + "\ninstead of\n" + due);
    }
    is(call + " on " + scene + " leaves all as it was", got.equals(due) ? 1 : 0, 1);
  }

  private void mustHaveLooked() {
    due.holds("something is tested of " + now, looked > 0);
  }

  void end() {
    mustHaveLooked();
    for (int n = 1; n <= PROMISES; n++) {
      due.holds("promise " + n + " has tests", promises[n].tests > 0);
      allNamed(promises[n]);
    }
    allNamed(terms);
    due.end();
  }

  private void allNamed(Sentences s) {
    String left = s.unnamed();
    due.holds("all of " + s.of + " is tested, also '" + left + "'", left.isEmpty());
  }

  /** A part of the document, and which of its words were named. */
  private static final class Sentences {
    final String of;
    int tests;
    private final String words;
    private final boolean[] named;

    Sentences(String of, String text) {
      this.of = of;
      words = text.replaceAll("\\s+", " ").trim();
      named = new boolean[words.length()];
    }

    boolean name(String some) {
      int from = words.indexOf(some);
      for (int i = 0; from >= 0 && i < some.length(); i++) {
        named[from + i] = true;
      }
      return from >= 0;
    }

    /** The first words that weren't named; empty, if nothing but marks is left. */
    String unnamed() {
      StringBuilder left = new StringBuilder();
      for (int i = 0; i < named.length; i++) {
        boolean counts = !named[i] && Character.isLetterOrDigit(words.charAt(i));
        if (counts || (left.length() > 0 && !named[i])) {
          left.append(words.charAt(i));
        } else if (left.length() > 0) {
          break;
        }
      }
      return left.toString();
    }
  }
}
