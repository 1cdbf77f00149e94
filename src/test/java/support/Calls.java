import java.util.ArrayList;
import java.util.HashMap;
import java.util.List;
import java.util.Map;
import java.util.Set;
import java.util.TreeSet;
import java.util.regex.Matcher;
import java.util.regex.Pattern;

/** Which methods of a source call which, by their names alone; methods with one name count as one. */
final class Calls {
  private static final Pattern DECLARED = Pattern.compile("^ +(?:(?:public|private|static|final) )*[\\w\\[\\]]+ (\\w+)\\([^)]*\\) \\{$");
  private static final Pattern CALLED = Pattern.compile("\\b(\\w+)\\(");
  private static final Set<String> NO_CALLS = Set.of("if", "for", "while", "switch");

  private final Map<String, Set<String>> calledBy = new HashMap<>();

  Calls(List<String> lines) {
    String method = null;
    for (String line : lines) {
      Matcher declared = DECLARED.matcher(line);
      if (declared.matches()) {
        method = declared.group(1);
        calledBy.putIfAbsent(method, new TreeSet<>());
      } else if (method != null) {
        addCalls(calledBy.get(method), line);
      }
    }
  }

  private static void addCalls(Set<String> found, String line) {
    Matcher called = CALLED.matcher(line.replaceAll("/\\*\\*.*|// .*", ""));
    while (called.find()) {
      if (!NO_CALLS.contains(called.group(1))) found.add(called.group(1));
    }
  }

  Set<String> methods() {
    return calledBy.keySet();
  }

  /** The longest chain of calls that begins with a method and comes to none twice; the library's own calls count, too. */
  List<String> longestFrom(String method) {
    return longest(method, new ArrayList<>(List.of(method)));
  }

  private List<String> longest(String method, List<String> open) {
    List<String> longest = new ArrayList<>(open);
    for (String called : calledBy.getOrDefault(method, Set.of())) {
      if (open.contains(called)) continue;
      open.add(called);
      List<String> chain = longest(called, open);
      open.remove(open.size() - 1);
      if (chain.size() > longest.size()) longest = chain;
    }
    return longest;
  }
}
