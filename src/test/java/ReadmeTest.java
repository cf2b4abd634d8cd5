import java.io.IOException;
import java.lang.reflect.Method;
import java.lang.reflect.Modifier;
import java.nio.charset.StandardCharsets;
import java.nio.file.DirectoryStream;
import java.nio.file.Files;
import java.nio.file.Path;
import java.util.Set;
import java.util.TreeSet;
import java.util.regex.Matcher;
import java.util.regex.Pattern;

/** README.md says what is so: its examples are run, and it names every call and every test. */
public final class ReadmeTest {
  private static final Due due = new Due("ReadmeTest");
  private static final Pattern EXAMPLES = Pattern.compile("(?s)\n```java\n(.*?)```");
  private static final Pattern CALL = Pattern.compile("x\\.(\\w+)\\(([^)]*)\\);\\s*// (-?\\d+)(: .*)?");
  private static final String MAKING = "StillStars x = new StillStars();";

  private static final Set<String> called = new TreeSet<>();

  public static void main(String[] args) throws Exception {
    String text = Files.readString(Path.of("README.md"), StandardCharsets.UTF_8);
    Matcher examples = EXAMPLES.matcher(text);
    while (examples.find()) {
      example(examples.group(1));
    }
    for (Method m : StillStars.class.getDeclaredMethods()) {
      if (Modifier.isPublic(m.getModifiers())) {
        due.holds("an example calls " + m.getName(), called.contains(m.getName()));
      }
    }
    tests(text);
    due.end();
  }

  private static void example(String lines) throws Exception {
    StillStars x = null;
    for (String line : lines.split("\n")) {
      if (line.startsWith(MAKING)) {
        x = new StillStars();
        continue;
      }
      Matcher call = CALL.matcher(line);
      boolean isCall = call.matches();
      due.holds("a call with its answer, on an object: " + line, isCall && x != null);
      if (isCall && x != null) {
        due.is(line, answer(x, call.group(1), call.group(2)), Long.parseLong(call.group(3)));
      }
    }
  }

  private static long answer(StillStars x, String name, String list) throws Exception {
    called.add(name);
    String[] given = list.isEmpty() ? new String[0] : list.split(",\\s*");
    for (Method m : StillStars.class.getDeclaredMethods()) {
      if (m.getName().equals(name) && m.getParameterCount() == given.length) {
        Object[] numbers = new Object[given.length];
        for (int i = 0; i < given.length; i++) {
          boolean truth = m.getParameterTypes()[i] == boolean.class;
          numbers[i] = truth ? (Object) Boolean.valueOf(given[i]) : Integer.valueOf(given[i]);
        }
        return ((Number) m.invoke(x, numbers)).longValue();
      }
    }
    due.holds("there is a call " + name + "(" + list + ")", false);
    return 0;
  }

  private static void tests(String text) throws IOException {
    try (DirectoryStream<Path> files = Files.newDirectoryStream(Path.of("src/test/java"), "*Test.java")) {
      for (Path file : files) {
        String name = file.getFileName().toString().replace(".java", "");
        due.holds("the table tells of " + name, text.contains("\n| `" + name + "` |"));
      }
    }
  }
}
