import java.io.IOException;
import java.lang.reflect.Field;
import java.lang.reflect.Method;
import java.lang.reflect.Modifier;
import java.nio.charset.StandardCharsets;
import java.nio.file.Files;
import java.nio.file.Path;
import java.util.ArrayList;
import java.util.List;
import java.util.regex.Matcher;
import java.util.regex.Pattern;

/** The rules of LANGUAGE.md that can be told by a look at the program's text and its classes. */
public final class LanguageTest {
  private static final String[] BARRED = {
    "->", "::", "\\bimport\\b", "\\bpackage\\b", "\\btry\\b", "\\bcatch\\b", "\\bfinally\\b", "\\bassert\\b",
    "\\bsynchronized\\b", "Exact\\(", "\" *\\+", "\\+ *\"", "\\.equals\\(", "\\bhashCode\\b", "\\btoString\\b",
    "\\bvar\\b", "[^\\x01-\\x7f]", "\\b(Float|Double|Boolean|Character|Object|Random|Thread)\\b",
    "\\b(protected|volatile|transient|native|strictfp)\\b", "System\\.(?!arraycopy)", "Math\\.(?!(min|max|abs|floor))",
    "throw new (?!(IllegalStateException|IllegalArgumentException|IndexOutOfBoundsException|ArithmeticException"
        + "|UnsupportedOperationException|NoSuchElementException|RuntimeException)\\((\"[^\"]*\")?\\);)",
  };
  private static final int MOST_CLASSES = 12;
  private static final int MOST_FIELDS = 20;
  private static final int MOST_LINES = 60;
  private static final int MOST_PARAMETERS = 7;

  public static void main(String[] args) throws IOException {
    String text = Files.readString(Path.of("src/main/java/ArmtowerLine.java"), StandardCharsets.ISO_8859_1);
    barred(text);
    lengths(text);
    classes();
    Checks.finish("LanguageTest");
  }

  private static void barred(String text) {
    String code = text.replaceAll("(?s)/\\*.*?\\*/", "").replaceAll("//[^\n]*", "");
    for (String pattern : BARRED) {
      Matcher matcher = Pattern.compile(pattern).matcher(code);
      if (matcher.find()) {
        Checks.fail("the program has '" + matcher.group() + "'");
      }
    }
  }

  /** A method's head ends with a brace, and its end stands below it as far in as its head. */
  private static void lengths(String text) {
    String[] lines = text.split("\n");
    for (int i = 0; i < lines.length; i++) {
      if (lines[i].matches(" {4}( {4})?\\w.*\\) \\{")) {
        String end = lines[i].replaceAll("\\S.*", "") + "}";
        int last = i;
        while (last < lines.length && !lines[last].equals(end)) {
          last++;
        }
        Checks.equal("short enough: " + lines[i].trim(), last - i < MOST_LINES, true);
      }
    }
  }

  private static void classes() {
    List<Class<?>> all = new ArrayList<>(List.of(ArmtowerLine.class.getDeclaredClasses()));
    Checks.equal("few enough classes", all.size() < MOST_CLASSES, true);
    for (Class<?> inside : all) {
      Checks.equal(inside + " is static", Modifier.isStatic(inside.getModifiers()), true);
    }
    all.add(ArmtowerLine.class);
    for (Class<?> one : all) {
      int fields = 0;
      for (Field field : one.getDeclaredFields()) {
        int modifiers = field.getModifiers();
        fields += Modifier.isStatic(modifiers) ? 0 : 1;
        Checks.equal(field + " may stand", !Modifier.isStatic(modifiers) || Modifier.isFinal(modifiers), true);
      }
      Checks.equal(one + " has few enough fields", fields <= MOST_FIELDS, true);
      for (Method method : one.getDeclaredMethods()) {
        Checks.equal(method + " takes few enough", method.getParameterCount() <= MOST_PARAMETERS, true);
      }
    }
  }
}
