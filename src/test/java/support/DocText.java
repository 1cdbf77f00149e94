import java.io.IOException;
import java.nio.file.Files;
import java.nio.file.Path;
import java.util.LinkedHashMap;
import java.util.List;
import java.util.Map;

/** The chapters of the document, and which of their words have been quoted. */
final class DocText {
  private static final List<String> PARTS = List.of("Conventions", "Slots and kinds", "Numbers", "The tape", "Links");

  private static final class Chapter {
    final String text;
    final boolean[] quoted;

    Chapter(String text) {
      this.text = text;
      quoted = new boolean[text.length()];
    }

    boolean quote(String words) {
      boolean found = false;
      for (int at = text.indexOf(words); at >= 0; at = text.indexOf(words, at + 1)) {
        for (int k = at; k < at + words.length(); k++) quoted[k] = true;
        found = true;
      }
      return found;
    }
  }

  private final Map<String, Chapter> chapters = new LinkedHashMap<>();

  DocText(Path file) throws IOException {
    String name = "";
    StringBuilder text = new StringBuilder();
    for (String line : Files.readAllLines(file)) {
      String begun = chapterBegunBy(line, name);
      if (begun != null) {
        if (!name.isEmpty()) chapters.put(name, new Chapter(oneLine(text.toString())));
        name = begun;
        text.setLength(0);
      } else if (!line.startsWith("----") && !line.matches("`.*\\)`")) {
        text.append(line).append('\n');
      }
    }
  }

  /** The name of the chapter that a line begins, "" for one without promises, or null for a line that begins none. */
  private static String chapterBegunBy(String line, String current) {
    if (line.matches("## Promise \\d+: .*")) return line.replaceAll("\\D+", " ").trim().split(" ")[0];
    if (line.startsWith("## Description")) return "Description";
    if (line.startsWith("## ")) return "";
    boolean inDescription = current.equals("Description") || PARTS.contains(current);
    return inDescription && PARTS.contains(line.trim()) ? line.trim() : null;
  }

  private static String oneLine(String text) {
    return text.replaceAll("\\s+", " ").trim();
  }

  boolean quote(String chapter, String words) {
    return chapters.containsKey(chapter) && chapters.get(chapter).quote(oneLine(words));
  }

  /** Fails for all words of the document that no case quotes, but for those that only join two of them. */
  void dueAllQuoted(Dues dues) {
    for (Map.Entry<String, Chapter> entry : chapters.entrySet()) {
      Chapter chapter = entry.getValue();
      StringBuilder left = new StringBuilder();
      for (int k = 0; k < chapter.text.length(); k++) left.append(chapter.quoted[k] ? '|' : chapter.text.charAt(k));
      for (String words : left.toString().split("\\|+")) {
        String bare = words.replaceAll("\\b(or|and|if|Returns)\\b|[^A-Za-z0-9]", "");
        if (!bare.isEmpty()) dues.fail("no case quotes, in the chapter " + entry.getKey() + ": " + words.trim());
      }
    }
  }
}
