import java.io.IOException;
import java.nio.file.Files;
import java.nio.file.Path;
import java.util.HashMap;
import java.util.List;
import java.util.Map;
import java.util.regex.Matcher;
import java.util.regex.Pattern;
import java.util.stream.Collectors;
import java.util.stream.Stream;

/** The examples of README.md answer what they say, and it names every test of the project and each error code. */
public final class ReadmeTest {
  private static final Path README = Path.of("README.md");
  private static final Path TESTS = Path.of("src/test/java");
  private static final Pattern CALL = Pattern.compile("(?:int (\\w+) = )?press\\.(\\w+)\\((.*)\\); +// (\\S+?)(?:: .*)?");
  private static final String NEW = "TapePress press = new TapePress();";
  private static final Face FACE = new Face(TapePress.class);
  private static final Dues DUES = new Dues();

  private final Map<String, Long> variables = new HashMap<>();
  private TapePress press;

  private long argument(String text) {
    return variables.containsKey(text) ? variables.get(text) : Values.of(text);
  }

  private void run(String line) {
    if (line.equals(NEW)) {
      press = new TapePress();
      return;
    }
    Matcher call = CALL.matcher(line);
    if (!call.matches() || press == null) {
      DUES.fail("not a call with its answer: " + line);
      return;
    }
    String[] texts = call.group(3).isEmpty() ? new String[0] : call.group(3).split(", ");
    long[] args = new long[texts.length];
    for (int k = 0; k < args.length; k++) args[k] = argument(texts[k]);
    if (!FACE.has(call.group(2), args.length)) {
      DUES.fail("no such method: " + line);
      return;
    }
    long answer = FACE.call(press, call.group(2), args);
    if (call.group(1) != null) variables.put(call.group(1), answer);
    DUES.due(line, answer, Values.of(call.group(4)));
  }

  private static int runExamples(List<String> lines) {
    int examples = 0;
    ReadmeTest open = null;
    for (String line : lines) {
      if (line.startsWith("```")) {
        open = line.equals("```java") ? new ReadmeTest() : null;
        if (open != null) examples++;
      } else if (open != null) {
        open.run(line);
      }
    }
    return examples;
  }

  private static List<String> tests() throws IOException {
    try (Stream<Path> files = Files.list(TESTS)) {
      return files.map(file -> file.getFileName().toString()).filter(name -> name.endsWith("Test.java"))
          .map(name -> name.replace(".java", "")).collect(Collectors.toList());
    }
  }

  private static void dueIn(String readme, String words) {
    DUES.due("'" + words + "' stands there", readme.contains(words) ? 1 : 0, 1);
  }

  public static void main(String[] args) throws IOException {
    DUES.promise("README.md");
    List<String> lines = Files.readAllLines(README);
    if (runExamples(lines) == 0) DUES.fail("it has no example");
    String readme = String.join("\n", lines);
    for (String test : tests()) dueIn(readme, "`" + test + "`");
    String[] constants = {"BAD", "NO", "FULL", "NONE", "NOTHING", "NOROW", "OPEN", "PLACE", "KIND", "FAULT"};
    for (String constant : constants) {
      dueIn(readme, "`" + constant + "` " + (constant.equals("NONE") ? "(-4)" : "" + Values.of(constant)));
    }
    DUES.end();
  }
}
