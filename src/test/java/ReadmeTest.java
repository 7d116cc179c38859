import java.io.IOException;
import java.nio.charset.StandardCharsets;
import java.nio.file.Files;
import java.nio.file.Path;
import java.util.regex.Matcher;
import java.util.regex.Pattern;

/** The example of README.md: each of its calls, in their order, answers what the head of its remark says. */
public final class ReadmeTest {
  private static final Pattern CALL = Pattern.compile("line\\.(\\w+)\\((.*?)\\);\\s*// (\\S+): .*");

  public static void main(String[] args) throws IOException {
    Story story = new Story("README.md");
    int calls = 0;
    boolean inExample = false;
    for (String row : Files.readAllLines(Path.of("README.md"), StandardCharsets.UTF_8)) {
      if (row.startsWith("```")) {
        inExample = row.equals("```java");
      } else if (inExample && row.startsWith("line.")) {
        tell(story, row);
        calls++;
      }
    }
    Checks.equal("the example has calls", calls > 0, true);
    Checks.finish("ReadmeTest");
  }

  private static void tell(Story story, String row) {
    Matcher matcher = CALL.matcher(row);
    if (!matcher.matches()) {
      Checks.fail("README.md does not say what is answered: " + row);
      return;
    }
    String method = matcher.group(1);
    Object[] arguments = arguments(matcher.group(2));
    String due = matcher.group(3);
    story.answers(due, method, arguments);
    if (due.endsWith("Exception")) {
      story.refused(method, arguments);
    } else {
      story.then(method, arguments);
    }
  }

  private static Object[] arguments(String text) {
    String[] parts = text.isEmpty() ? new String[0] : text.split(", ");
    Object[] arguments = new Object[parts.length];
    for (int i = 0; i < parts.length; i++) {
      boolean isWay = parts[i].equals("true") || parts[i].equals("false");
      arguments[i] = isWay ? (Object) Boolean.valueOf(parts[i]) : (Object) Integer.valueOf(parts[i]);
    }
    return arguments;
  }
}
