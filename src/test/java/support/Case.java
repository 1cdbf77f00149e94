import java.io.IOException;
import java.nio.file.Files;
import java.nio.file.Path;
import java.util.ArrayList;
import java.util.List;
import java.util.stream.Collectors;
import java.util.stream.Stream;

/** A case of the scripts in src/test/boundaries: words of the document, and calls with the answers that they ask for. */
final class Case {
  final String where;
  final String chapter;
  final String words;
  final List<String> steps = new ArrayList<>();

  private Case(String where, String chapter, String words) {
    this.where = where;
    this.chapter = chapter;
    this.words = words;
  }

  static List<Case> allUnder(Path folder) throws IOException {
    List<Case> cases = new ArrayList<>();
    try (Stream<Path> files = Files.list(folder)) {
      for (Path file : files.filter(f -> f.toString().endsWith(".txt")).sorted().collect(Collectors.toList())) {
        read(file, cases);
      }
    }
    return cases;
  }

  private static void read(Path file, List<Case> cases) throws IOException {
    int number = 0;
    for (String line : Files.readAllLines(file)) {
      number++;
      String text = line.replaceAll("(^|\\s)#.*$", "").trim();
      if (text.isEmpty()) continue;
      int end = text.indexOf(']');
      if (text.startsWith("[") && end > 0) {
        String where = file.getFileName() + ":" + number;
        cases.add(new Case(where, text.substring(1, end), text.substring(end + 1).trim()));
      } else if (cases.isEmpty()) {
        throw new IllegalStateException(file + ":" + number + ": a step before the first case");
      } else {
        cases.get(cases.size() - 1).steps.add(text);
      }
    }
  }
}
