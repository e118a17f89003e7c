import java.io.IOException;
import java.lang.reflect.Method;
import java.nio.file.Files;
import java.nio.file.Path;
import java.util.List;
import java.util.Set;
import java.util.TreeSet;
import java.util.regex.Matcher;
import java.util.regex.Pattern;

/** README.md: its calls, made one behind the other, answer what it says. */
public final class ReadmeTest {
  private static final Due DUE = new Due("ReadmeTest");
  private static final Pattern CALL = Pattern.compile("x\\.(\\w+)\\(([-0-9, ]*)\\);\\s+// (-?\\d+)(:.*)?");
  private static final Pattern FED = Pattern.compile("for \\(char c : \"([^\"]*)\"\\.toCharArray\\(\\)\\) x\\.feed\\(c\\);");
  private static final Pattern MADE = Pattern.compile("AntsTurn x = new AntsTurn\\(\\);\\s+//.*");

  private static AntsTurn x;

  public static void main(String[] args) throws IOException, ReflectiveOperationException {
    List<String> lines = Files.readAllLines(Path.of("README.md"));
    Set<String> shown = new TreeSet<>();
    for (String line : lines) {
      if (line.startsWith("    ") && !line.equals("    .ci/run")) {
        look(line.trim(), shown);
      }
    }
    for (Method m : AntsTurn.class.getMethods()) {
      if (m.getDeclaringClass() == AntsTurn.class) {
        DUE.holds("README.md shows " + m.getName(), shown.contains(m.getName()));
      }
    }
    bounds(String.join("\n", lines));
    DUE.end();
  }

  private static void look(String line, Set<String> shown) throws ReflectiveOperationException {
    Matcher call = CALL.matcher(line);
    Matcher fed = FED.matcher(line);
    if (MADE.matcher(line).matches()) {
      x = new AntsTurn();
    } else if (fed.matches()) {
      Texts.feed(x, fed.group(1));
      shown.add("feed");
    } else if (call.matches()) {
      DUE.is("README.md, " + line, answer(call.group(1), call.group(2)), Long.parseLong(call.group(3)));
      shown.add(call.group(1));
    } else {
      DUE.holds("README.md's line can be made: " + line, false);
    }
  }

  private static long answer(String name, String numbers) throws ReflectiveOperationException {
    String[] told = numbers.isEmpty() ? new String[0] : numbers.split(", ");
    Class<?>[] types = new Class<?>[told.length];
    Object[] values = new Object[told.length];
    for (int i = 0; i < told.length; i++) {
      types[i] = int.class;
      values[i] = Integer.valueOf(told[i]);
    }
    return ((Number) AntsTurn.class.getMethod(name, types).invoke(x, values)).longValue();
  }

  /** What the page says of refusals, besides the calls that it shows. */
  private static void bounds(String page) {
    DUE.holds("NONE", page.contains("| `NONE`, " + AntsTurn.NONE + " |"));
    DUE.holds("BAD", page.contains("| `BAD`, " + AntsTurn.BAD + " |"));
    DUE.holds("STATE", page.contains("| `STATE`, " + AntsTurn.STATE + " |"));
    DUE.holds("FULL", page.contains("| `FULL`, " + AntsTurn.FULL + " |"));
    AntsTurn y = new AntsTurn();
    DUE.is("of that is none such", y.of(0, 0), -100000);
    DUE.is("tilt that is none such", y.tilt(201), -100000);
    DUE.is("byThen that is none such", y.byThen(201, 0), AntsTurn.NO);
    Texts.row(y, 0, 1, 0, 100, 0);
    DUE.is("one stands ahead of what is outside", y.ants(0, 1, 0, 2), -12);
    DUE.is("it came", y.count(0), 1);
    Texts.feed(y, "turn");
    DUE.is("a text that ends too early", y.text(), -104);
    DUE.is("the tape is empty", y.count(4), 0);
  }
}
