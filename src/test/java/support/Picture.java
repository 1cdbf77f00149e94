import java.util.ArrayList;
import java.util.List;

/**
 * All that can be seen of a TapePress after a run of calls. It is taken from objects of its own on which the run is
 * made again, so that the looking changes nothing, and no object gets more calls than the document allows.
 */
final class Picture {
  private static final int MOST_CALLS = 512;
  private static final Face FACE = new Face(TapePress.class);

  /** A call that has been made. */
  static final class Made {
    final String name;
    final long[] args;

    Made(String name, long... args) {
      this.name = name;
      this.args = args;
    }
  }

  private final List<Made> run;
  private TapePress copy;
  private int calls;

  final long result;
  final long spot;
  final long[] counters = new long[5];
  final List<Long> tape = new ArrayList<>();
  final List<List<String>> slots = new ArrayList<>();
  /** The slots, the tape, the read position and the write mode. */
  final String state;

  Picture(List<Made> run) {
    this.run = run;
    renew();
    result = see("went", 0);
    spot = see("went", 1);
    for (int k = 0; k < 5; k++) counters[k] = see("count", 4 + k);
    long bytes = see("count", 1);
    String rest = see("count", 0) + " filled, at " + see("count", 2) + ", mode " + see("count", 3);
    for (int t = 0; t < 12; t++) slots.add(contents(t));
    for (int i = 0; i < bytes; i++) tape.add(see("tape", i));
    state = slots + " " + tape + " " + rest;
  }

  private void renew() {
    copy = new TapePress();
    for (Made made : run) FACE.call(copy, made.name, made.args);
    calls = run.size();
  }

  private long see(String name, long... args) {
    if (calls >= MOST_CALLS && run.size() < MOST_CALLS) renew();
    calls++;
    return FACE.call(copy, name, args);
  }

  private List<String> contents(int t) {
    List<String> seen = new ArrayList<>();
    long kind = see("kind", t);
    seen.add("kind " + kind);
    // A bead or a word shows its number or its letters only on the tape.
    if (kind == 14 || kind == 15) seen.add(asWritten(t));
    long size = see("size", t);
    for (int k = 0; k < size; k++) seen.add(see("look", t, k, 0) + ":" + see("look", t, k, 1));
    return seen;
  }

  private String asWritten(int t) {
    TapePress other = new TapePress();
    for (Made made : run) FACE.call(other, made.name, made.args);
    other.cut(0);
    int bytes = other.lay(t);
    StringBuilder written = new StringBuilder();
    for (int i = 0; i < bytes; i++) written.append(' ').append(other.tape(i));
    return written.toString();
  }
}
