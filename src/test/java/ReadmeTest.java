import java.io.IOException;
import java.nio.charset.StandardCharsets;
import java.nio.file.Files;
import java.nio.file.Path;
import java.util.ArrayList;
import java.util.List;
import java.util.regex.Matcher;
import java.util.regex.Pattern;
import java.util.stream.Stream;

/** README.md: its example answers what it says, and it names what is to be found here. */
public final class ReadmeTest {
  private static final Path README = Path.of("README.md");
  private static final Pattern CALL =
      Pattern.compile("yard\\.(\\w+)\\(([^)]*)\\);\\s+// (?:throws )?([-\\w.]+)(?:: .*)?");

  private final Due due = new Due();
  private final String text;

  private ReadmeTest() throws IOException {
    text = Files.readString(README, StandardCharsets.UTF_8);
  }

  public static void main(String[] args) throws IOException {
    ReadmeTest test = new ReadmeTest();
    test.example();
    test.names();
    test.due.end();
  }

  private void example() {
    int begin = text.indexOf("```java\n");
    int end = text.indexOf("```", begin + 3);
    boolean isThere = begin >= 0 && end > begin;
    due.same("the example is there", isThere, true);
    String[] lines = isThere ? text.substring(begin, end).split("\n") : new String[0];
    Calls yard = new Calls(new HullyardSurveys());
    for (int i = 1; i < lines.length; i++) {
      Matcher call = CALL.matcher(lines[i]);
      boolean isText = lines[i].isBlank() || lines[i].startsWith("// ");
      if (call.matches()) {
        String got = yard.answer(call.group(1), numbersOf(call.group(2)));
        due.sameText(lines[i], got, call.group(3));
      } else {
        due.same("no answer is told: " + lines[i], isText || lines[i].contains(" = new "), true);
      }
    }
  }

  private static Object[] numbersOf(String told) {
    List<Object> numbers = new ArrayList<>();
    for (String number : told.isEmpty() ? new String[0] : told.split(", ")) {
      boolean isTruth = number.equals("true") || number.equals("false");
      numbers.add(isTruth ? (Object) Boolean.valueOf(number) : (Object) Integer.valueOf(number));
    }
    return numbers.toArray();
  }

  private void names() throws IOException {
    due.same("how to run the tests", text.contains("\nbash .ci/run\n"), true);
    try (Stream<Path> files = Files.list(Path.of("src", "test", "java"))) {
      for (Path file : (Iterable<Path>) files.sorted()::iterator) {
        String name = file.getFileName().toString().replace(".java", "");
        boolean isNamed = text.contains("\n| `" + name + "` |");
        due.same("is named: " + name, isNamed || !name.endsWith("Test"), true);
      }
    }
    for (Class<?> inside : HullyardSurveys.class.getDeclaredClasses()) {
      String name = inside.getSimpleName();
      due.same("is named: " + name, text.contains("\n- `" + name + "`: "), true);
    }
  }
}
