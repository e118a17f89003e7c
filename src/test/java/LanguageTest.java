import java.io.IOException;
import java.lang.reflect.Constructor;
import java.lang.reflect.Field;
import java.lang.reflect.Method;
import java.lang.reflect.Modifier;
import java.nio.file.Files;
import java.nio.file.Path;
import java.util.ArrayList;
import java.util.Arrays;
import java.util.List;
import java.util.Set;
import java.util.TreeSet;
import java.util.regex.Matcher;
import java.util.regex.Pattern;

/** The face of the document, and those rules of LANGUAGE.md that can be looked up in the source. */
public final class LanguageTest {
  private static final Due DUE = new Due("LanguageTest");

  public static void main(String[] args) throws IOException {
    face(Files.readString(Path.of("../shared/DOC.md")));
    String source = Files.readString(Path.of("src/main/java/AntsTurn.java"));
    words(withoutTexts(source));
    methodsAreShort(source);
    DUE.end();
  }

  private static void face(String document) {
    int from = document.indexOf("```java");
    String block = document.substring(from, document.indexOf("```", from + 7));
    Set<String> want = new TreeSet<>();
    Matcher m = Pattern.compile("public (int|long) (\\w+)\\(([^)]*)\\);").matcher(block);
    while (m.find()) {
      want.add(m.group(1) + " " + m.group(2) + "(" + m.group(3).replaceAll("(int|long) \\w+", "$1") + ")");
    }
    Set<String> got = new TreeSet<>();
    Set<String> names = new TreeSet<>();
    for (Method method : AntsTurn.class.getDeclaredMethods()) {
      if (!Modifier.isPrivate(method.getModifiers())) {
        got.add(told(method));
        names.add(method.getName());
        DUE.holds(method + " is public and no other", method.getModifiers() == Modifier.PUBLIC);
      }
    }
    DUE.holds("the face has 29 methods", want.size() == 29);
    DUE.holds("the face is " + want + ", not " + got, want.equals(got));
    for (Constructor<?> c : AntsTurn.class.getDeclaredConstructors()) {
      DUE.holds(c + " is the one constructor", c.getParameterCount() == 0 && Modifier.isPublic(c.getModifiers()));
    }
    Set<String> constants = new TreeSet<>();
    for (Field f : AntsTurn.class.getDeclaredFields()) {
      if (!Modifier.isPrivate(f.getModifiers())) {
        constants.add(f.getName());
      }
      DUE.holds(f + " is no static state", !Modifier.isStatic(f.getModifiers()) || Modifier.isFinal(f.getModifiers()));
    }
    DUE.holds("constants are " + constants, constants.equals(new TreeSet<>(List.of("NONE", "BAD", "STATE", "FULL", "NO"))));
    classes(names);
  }

  private static String told(Method m) {
    StringBuilder b = new StringBuilder(m.getReturnType() + " " + m.getName() + "(");
    for (int i = 0; i < m.getParameterCount(); i++) {
      b.append(i == 0 ? "" : ", ").append(m.getParameterTypes()[i]);
    }
    return b.append(")").toString();
  }

  private static void classes(Set<String> publicNames) {
    List<Class<?>> all = new ArrayList<>(Arrays.asList(AntsTurn.class.getDeclaredClasses()));
    DUE.holds("at most twelve classes: " + all.size(), all.size() < 12);
    for (Class<?> c : all) {
      DUE.holds(c + " is static and not public", Modifier.isStatic(c.getModifiers()) && !Modifier.isPublic(c.getModifiers()));
    }
    all.add(AntsTurn.class);
    for (Class<?> c : all) {
      int fields = 0;
      for (Field f : c.getDeclaredFields()) {
        fields += Modifier.isStatic(f.getModifiers()) ? 0 : 1;
      }
      DUE.holds(c + " has at most twenty fields: " + fields, fields <= 20);
      for (Method m : c.getDeclaredMethods()) {
        DUE.holds(m + " takes at most seven", m.getParameterCount() <= 7);
        boolean shares = !Modifier.isPublic(m.getModifiers()) && publicNames.contains(m.getName());
        DUE.holds(m + " bears no public one's name", !shares);
      }
    }
  }

  private static String withoutTexts(String source) {
    return source.replaceAll("(?s)/\\*.*?\\*/", " ").replaceAll("//[^\n]*", " ").replaceAll("\"[^\"\n]*\"", "\"\"");
  }

  private static void words(String code) {
    String[] banned = {
      "\\bthrow\\b", "\\bthrows\\b", "\\btry\\b", "\\bcatch\\b", "\\bfinally\\b", "\\bsynchronized\\b", "\\bassert\\b", "->", "::",
      "\\bpackage\\b", "\\bprotected\\b", "\\bvar\\b", "\\brecord\\b", "\\bThread\\b", "\\bRandom\\b", "\\bSystem\\.(?!arraycopy)",
      "\\w+Exact\\b", "\\bObject\\b", "\\bhashCode\\b", "\\btoString\\b", "\\bgetClass\\b", "while \\(true\\)", "for \\(;;\\)",
      "\\bstatic \\{", "\\bdouble\\b", "\\bfloat\\b", "\\bjava\\.(?!util\\.Arrays;)"
    };
    for (String b : banned) {
      Matcher m = Pattern.compile(b).matcher(code);
      DUE.holds("no " + b + " in the source", !m.find());
    }
    for (int i = 0; i < code.length(); i++) {
      if (code.charAt(i) > 126) {
        DUE.holds("signs of the source are 1 to 127", false);
      }
    }
    DUE.holds("the class is public and final", code.contains("public final class AntsTurn {"));
  }

  /** A method goes from its head to the next brace that stands as far in as the head does. */
  private static void methodsAreShort(String source) {
    Matcher m = Pattern.compile("(?m)^( +)(?!private static (final )?class|\\s)[^\n]*\\) \\{\\n(?s:.*?)^\\1\\}$").matcher(source);
    int methods = 0;
    while (m.find()) {
      methods++;
      int lines = m.group().split("\n").length;
      DUE.holds("at most sixty lines: " + m.group().trim().split("\n")[0], lines <= 60);
    }
    DUE.holds("methods were found: " + methods, methods > 100);
  }
}
