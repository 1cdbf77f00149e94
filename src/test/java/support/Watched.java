import java.util.ArrayList;
import java.util.Arrays;
import java.util.List;
import java.util.Set;

/** A TapePress that is watched: after each call, what the document's chapter 'Conventions' says must hold. */
final class Watched {
  private static final Face FACE = new Face(TapePress.class);
  private static final Set<String> SETTERS_OF_RESULT =
      Set.of("get", "look", "carry", "convert", "shape", "sum", "read", "readAs", "skip", "relay");
  private static final Set<String> COUNTED = Set.of("get", "set", "look", "put");
  private static final Set<String> CHANGES_NOTHING = Set.of(
      "kind", "size", "get", "usable", "look", "went", "sum", "tape", "slack", "find", "laid", "part", "hangs", "far",
      "called", "named", "count");
  private static final int NONE = -4, NOTHING = -5, KIND = -9;

  private final Dues dues;
  private final TapePress real = new TapePress();
  private final List<Picture.Made> run = new ArrayList<>();
  private Picture last;

  Watched(Dues dues) {
    this.dues = dues;
  }

  /** A call of a preparation, after which nothing is checked. */
  long prepare(String name, long... args) {
    run.add(new Picture.Made(name, args));
    last = null;
    return FACE.call(real, name, args);
  }

  /** Makes a call; result and spot are those that are due after it, or null for those that follow from its answer. */
  long call(String name, long[] args, Long result, Long spot) {
    Picture before = picture();
    run.add(new Picture.Made(name, args));
    long answer = FACE.call(real, name, args);
    last = null;
    Picture after = picture();
    String text = name + Arrays.toString(args);
    long error = errorOf(name, answer, result);
    boolean sets = SETTERS_OF_RESULT.contains(name);
    dues.due("went(0) after " + text, after.result, result != null ? result : sets ? error : before.result);
    dues.due("went(1) after " + text, after.spot, spot != null ? spot : sets ? -1 : before.spot);
    if (error != 0 || CHANGES_NOTHING.contains(name)) {
      dues.same("all that " + text + " must not change", after.state, before.state);
    }
    for (int k = 0; k < 5; k++) {
      boolean counts = COUNTED.contains(name) && error == NOTHING - k;
      dues.due("count(" + (4 + k) + ") after " + text, after.counters[k], before.counters[k] + (counts ? 1 : 0));
    }
    return answer;
  }

  private static long errorOf(String name, long answer, Long result) {
    if (name.equals("went")) return 0;
    // carry() answers how many it has copied, and has changed something, even if the result is not 0.
    if (name.equals("carry") && answer >= 0) return 0;
    if (FACE.answersLong(name)) return result == null ? 0 : result;
    return answer >= 0 || answer == NONE || answer < KIND - 1 ? 0 : answer;
  }

  Picture picture() {
    if (last == null) last = new Picture(run);
    return last;
  }
}
