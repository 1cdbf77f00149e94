import java.util.ArrayList;
import java.util.Arrays;
import java.util.HashMap;
import java.util.List;
import java.util.Map;
import java.util.Random;

/** Long runs of calls, always the same ones, on a TapePress and on the Model: every answer must be the same. */
public final class ModelTest {
  private static final int CALLS = 512;
  private static final String[] FACE = {
    "make", "kind", "size", "drop", "gather", "copyOf", "get", "set", "usable", "look", "put", "swap", "went", "carry",
    "convert", "shape", "sum", "mode", "lay", "tape", "poke", "cut", "seek", "read", "readAs", "skip", "relay", "slack",
    "find", "laid", "part", "hangs", "far", "twin", "called", "named", "count",
  };

  private static final Face REAL = new Face(TapePress.class);
  private static final Face DUE = new Face(Model.class);
  private static final Map<String, Integer> SEEN = new HashMap<>();

  private final Dues dues;
  private final Random random;
  private final int run;
  private final TapePress real = new TapePress();
  private final Model due = new Model();
  private final List<String> history = new ArrayList<>();

  private ModelTest(Dues dues, int run) {
    this.dues = dues;
    this.run = run;
    random = new Random(run * 7919L + 17);
  }

  private long call(String name, long... args) {
    String text = name + Arrays.toString(args);
    long got = REAL.call(real, name, args);
    long want = DUE.call(due, name, args);
    history.add(text + " -> " + got);
    SEEN.merge(name + " " + (want < 0 && want >= -10 ? want : 0), 1, Integer::sum);
    if (got != want && dues.wrong() == 0) {
      for (String line : history) System.out.println("  " + line);
    }
    dues.due("run " + run + ", call " + history.size() + ": " + text, got, want);
    return got;
  }

  // ---- arguments

  private boolean rarely(int oneIn) {
    return random.nextInt(oneIn) == 0;
  }

  private int between(int least, int greatest) {
    return least + random.nextInt(greatest - least + 1);
  }

  private long slot() {
    if (rarely(60)) return rarely(2) ? random.nextInt() : rarely(2) ? -1 : 12;
    int slot = random.nextInt(12);
    for (int k = 0; k < 3 && due.kind(slot) < 0; k++) slot = random.nextInt(12);
    return slot;
  }

  private long place() {
    if (rarely(30)) return rarely(3) ? random.nextInt() : between(-1, 13);
    return random.nextInt(rarely(3) ? 12 : 4);
  }

  private long anyLong() {
    switch (random.nextInt(5)) {
      case 0: return between(-3, 3);
      case 1: return (1L << random.nextInt(64)) + between(-2, 2);
      case 2: return -(1L << random.nextInt(64)) + between(-2, 2);
      case 3: return random.nextLong() >> random.nextInt(64);
      default: return between(-140, 140);
    }
  }

  private long word() {
    if (rarely(10)) return anyLong();
    if (rarely(2)) return Words.code(Model.NAMES.get(random.nextInt(rarely(3) ? 16 : 8)));
    StringBuilder word = new StringBuilder();
    for (int n = between(1, 7); n > 0; n--) word.append((char) between('a', 'z'));
    return Words.code(word.toString());
  }

  private long valueFor(int what) {
    if (what == 8) return word();
    if (what == 9) return rarely(20) ? anyLong() : between(0, 5);
    if (what == 10) return slot();
    if (what == 11) return rarely(20) ? anyLong() : 0;
    if (what == 0) return rarely(8) ? anyLong() : between(0, 1);
    long v = anyLong();
    if (rarely(6)) return v;
    return what == 1 ? (byte) v : what == 2 ? (char) v : what == 3 ? (short) v : what == 4 ? (int) v : v;
  }

  private long kindUpTo(int greatest) {
    return rarely(30) ? (rarely(2) ? -1 : greatest + 1) : between(0, greatest);
  }

  private long bit() {
    return rarely(30) ? between(-1, 2) : between(0, 1);
  }

  private int tapeLength() {
    return due.count(1);
  }

  private long tapePlace() {
    return rarely(30) ? between(-1, 201) : random.nextInt(tapeLength() + 1);
  }

  private int tapeByte() {
    switch (random.nextInt(6)) {
      case 0: return between(0, 12);
      case 1: return between(16, 30);
      case 2: return between(31, 54);
      case 3: return between(96, 123);
      case 4: return rarely(2) ? between(126, 130) : 255;
      default: return random.nextInt(256);
    }
  }

  // ---- calls and groups of calls

  private void randomCall() {
    String name = FACE[random.nextInt(FACE.length)];
    switch (name) {
      case "make": make(); break;
      case "gather": if (rarely(6)) call(name, slot()); break;
      case "drop": case "kind": case "size": case "copyOf": case "lay": case "find": case "hangs": case "twin": case "called":
        call(name, slot());
        break;
      case "get": call(name, slot(), kindUpTo(7), place()); break;
      case "set": setNumber(); break;
      case "usable": case "look": call(name, slot(), place(), bit()); break;
      case "put": putValue(); break;
      case "swap": call(name, slot(), place(), place()); break;
      case "went": call(name, bit()); break;
      case "carry": call(name, slot(), place(), slot(), place(), rarely(20) ? between(-1, 13) : between(0, 5)); break;
      case "convert": call(name, slot(), kindUpTo(13)); break;
      case "shape": case "part": case "far": call(name, slot(), slot()); break;
      case "sum": call(name, slot(), between(3, 8)); break;
      case "mode": call(name, between(rarely(9) ? -1 : 0, rarely(9) ? 3 : 2)); break;
      case "tape": case "seek": case "slack": call(name, tapePlace()); break;
      case "poke": call(name, tapePlace(), rarely(30) ? between(-1, 256) : tapeByte()); break;
      case "cut": if (rarely(5)) call(name, tapePlace()); break;
      case "read": case "skip": call(name); break;
      case "readAs": call(name, kindUpTo(13)); break;
      case "relay": call(name, between(rarely(9) ? -1 : 0, rarely(9) ? 3 : 2)); break;
      case "laid": call(name, slot(), between(rarely(9) ? -1 : 0, rarely(9) ? 3 : 2)); break;
      case "named": call(name, word()); break;
      default: call(name, between(-1, 9));
    }
    if (rarely(4)) told();
  }

  private void told() {
    call("went", 0);
    call("went", 1);
  }

  private void make() {
    int kind = (int) kindUpTo(15);
    long v = kind == 15 ? word() : kind == 14 ? between(rarely(9) ? -1 : 0, rarely(9) ? 6 : 5) : rarely(3) ? between(-1, 13) : between(1, 5);
    call("make", kind, v);
  }

  private void setNumber() {
    long slot = slot();
    int kind = (int) kindUpTo(7);
    if (!rarely(3) && slot >= 0 && slot < 12) kind = due.kind((int) slot);
    call("set", slot, kind, place(), valueFor(kind));
  }

  private void putValue() {
    long slot = slot();
    int what = (int) kindUpTo(11);
    if (!rarely(3) && slot >= 0 && slot < 12) what = fittingWhat(due.kind((int) slot));
    call("put", slot, place(), what, valueFor(what));
  }

  private int fittingWhat(int kind) {
    if (rarely(12)) return 11;
    switch (kind) {
      case 8: return 4;
      case 9: return 8;
      case 10: case 11: return 9;
      case 12: return rarely(2) ? 10 : between(0, 11);
      case 13: return 10;
      default: return kind < 0 || kind > 7 ? 11 : kind;
    }
  }

  private void freeRoom() {
    while (due.count(0) > between(5, 11)) {
      long slot = slot();
      if (slot < 0 || slot > 11) continue;
      if (call("drop", slot) == Model.NO) call("put", 0, 0, 11, 0);
      if (rarely(4)) call("gather", slot);
    }
    if (tapeLength() > between(40, 260)) call("cut", random.nextInt(30));
  }

  /** A primitive array with numbers everywhere, or an object array with all that it may hold. */
  private void filledRow() {
    int kind = between(0, 13);
    int n = between(0, rarely(4) ? 12 : 5);
    long slot = call("make", kind, n);
    if (slot < 0) return;
    for (int k = 0; k < n; k++) {
      int what = fittingWhat(kind);
      if (k > 0 && kind < 8 && rarely(3)) call("carry", slot, k - 1, slot, k, 1);
      else call("put", slot, k, what, valueFor(what));
    }
  }

  private long rowSlot() {
    long slot = random.nextInt(12);
    for (int k = 0; k < 20 && due.size((int) slot) < 0; k++) slot = random.nextInt(12);
    return slot;
  }

  /** Arrays that hold one another, in circles too. */
  private void linkUp() {
    for (int k = between(1, 8); k > 0; k--) call("make", rarely(4) ? 13 : rarely(5) ? 4 : 12, between(1, 4));
    for (int k = between(1, 12); k > 0; k--) call("put", rowSlot(), between(0, 3), 10, rowSlot());
    for (int k = between(1, 6); k > 0; k--) {
      call("far", rowSlot(), rowSlot());
      call("hangs", rowSlot());
      call("laid", rowSlot(), between(0, 2));
      call("part", rowSlot(), rowSlot());
    }
    call(rarely(2) ? "twin" : "drop", rowSlot());
    if (rarely(2)) call("gather", rowSlot());
  }

  private void shapeUp() {
    int n = between(0, 5);
    long numbers = call("make", between(0, 7), between(0, 5));
    long schema = call("make", 9, n);
    if (numbers < 0 || schema < 0) return;
    int own = due.kind((int) numbers);
    for (int k = 0; k < n; k++) {
      int kind = rarely(8) ? between(0, 15) : own == 0 ? 0 : own == 2 ? between(4, 7) : between(own, 7);
      if (!rarely(12)) call("put", schema, k, 8, Words.code(Model.NAMES.get(kind)));
      call("set", numbers, own, k, valueFor(own));
    }
    call("shape", schema, numbers);
    told();
    for (int kind = 4; kind <= 7; kind++) {
      call("sum", numbers, kind);
      told();
    }
    for (int kind = 0; kind <= 7; kind++) call("get", numbers, kind, 0);
  }

  private void fillTape() {
    long slot = rowSlot();
    for (int k = 0; k < 30 && call("lay", slot) > 0; k++) if (rarely(3)) slot = rowSlot();
    call("seek", random.nextInt(tapeLength() + 1));
    call("relay", between(0, 2));
    told();
    for (int k = 0; k < 12 && tapeLength() < 200; k++) call("poke", tapeLength(), tapeByte());
    call("poke", tapeLength(), tapeByte());
    call("poke", 200, 0);
  }

  private void wander() {
    call("cut", random.nextInt(Math.min(20, tapeLength() + 1)));
    int start = tapeLength();
    call("mode", between(0, 2));
    call("lay", slot());
    call("seek", start);
    for (int k = between(0, 2); k > 0 && tapeLength() > start; k--) {
      call("poke", between(start, tapeLength() - 1), tapeByte());
    }
    readings();
  }

  private void readings() {
    if (tapeLength() > 0) call("slack", random.nextInt(tapeLength()));
    if (rarely(2)) call("relay", between(0, 2));
    told();
    if (rarely(2)) call("readAs", kindUpTo(13));
    else call(rarely(3) ? "skip" : "read");
    told();
    call("find", slot());
  }

  private void writtenByHand() {
    call("cut", random.nextInt(Math.min(5, tapeLength() + 1)));
    int start = tapeLength();
    ArrayList<Integer> bytes = new ArrayList<>();
    int[] arrays = {0};
    handValue(12, bytes, arrays, rarely(4) ? 13 : 3, true);
    if (rarely(3) && !bytes.isEmpty()) bytes.set(random.nextInt(bytes.size()), tapeByte());
    if (rarely(6) && !bytes.isEmpty()) bytes.remove(random.nextInt(bytes.size()));
    for (int k = 0; k < bytes.size() && tapeLength() < 200; k++) call("poke", tapeLength(), bytes.get(k));
    call("seek", start);
    readings();
  }

  private void handValue(int kind, List<Integer> bytes, int[] arrays, int depth, boolean top) {
    if (bytes.size() > 190) return;
    int what = top ? (rarely(8) ? between(8, 9) : 10) : fittingWhat(kind);
    if (what == 10 && (top || depth > 0 && !rarely(4))) {
      handRow(kind == 13 ? 4 : depth > 5 ? 12 : between(0, 13), bytes, arrays, depth - 1);
      return;
    }
    bytes.add(what);
    if (what == 8) {
      int letters = between(1, 7);
      bytes.add(letters);
      for (int k = 0; k < letters; k++) bytes.add(between('a', 'z'));
    } else if (what == 9) {
      bytes.add(between(kind == 11 ? 3 : 0, 5));
    } else if (what == 10) {
      bytes.add(random.nextInt(arrays[0] + 1));
    } else if (what < 8) {
      handNumber(what, bytes);
    }
  }

  private void handRow(int kind, List<Integer> bytes, int[] arrays, int depth) {
    arrays[0]++;
    int form = kind >= 8 ? 16 : kind >= 1 && kind <= 5 ? 16 * between(1, 3) : 16 * between(1, 2);
    int n = kind >= 8 ? between(1, 3) : between(0, 4);
    bytes.add(form + kind);
    bytes.add(n);
    int left = n;
    while (left > 0) {
      int run = form == 32 ? between(1, left) : 1;
      if (form == 32) bytes.add(run);
      if (kind >= 8) handValue(kind, bytes, arrays, depth, false);
      else if (form == 48) handStep(bytes);
      else handNumber(kind, bytes);
      left -= run;
    }
  }

  private void handStep(List<Integer> bytes) {
    int groups = rarely(3) ? between(1, 11) : 1;
    for (int k = 1; k < groups; k++) bytes.add(128 + random.nextInt(128));
    bytes.add(groups > 8 ? between(0, 2) : random.nextInt(128));
  }

  private void handNumber(int kind, List<Integer> bytes) {
    int[] widths = {1, 1, 2, 2, 4, 8, 4, 8};
    long v = kind == 0 ? between(0, 1) : anyLong();
    if (kind >= 6) {
      v >>= random.nextInt(kind == 6 ? 50 : 20);
      if (v != 0) v |= 1;
      bytes.add(v == 0 ? 0 : random.nextInt(67));
    }
    for (int k = widths[kind] - 1; k >= 0; k--) bytes.add((int) (v >> 8 * k) & 255);
  }

  private void compareAll() {
    for (int t = 0; t < 12; t++) {
      call("kind", t);
      int n = due.size(t);
      for (int k = 0; k < n; k++) {
        call("look", t, k, 0);
        call("look", t, k, 1);
      }
    }
    for (int i = 0; i <= tapeLength(); i++) call("tape", i);
    for (int what = 0; what <= 8; what++) call("count", what);
    told();
  }

  private void go() {
    while (history.size() < CALLS && dues.wrong() == 0) {
      switch (random.nextInt(14)) {
        case 0: case 13: freeRoom(); break;
        case 1: filledRow(); break;
        case 2: wander(); break;
        case 3: writtenByHand(); break;
        case 4: linkUp(); break;
        case 5: shapeUp(); break;
        case 6: if (rarely(6)) fillTape(); break;
        default: for (int k = 0; k < 6; k++) randomCall();
      }
    }
    compareAll();
  }

  public static void main(String[] args) {
    int runs = args.length > 0 ? Integer.parseInt(args[0]) : 300;
    Dues dues = new Dues();
    dues.promise("as the model");
    for (int run = 1; run <= runs && dues.wrong() == 0; run++) new ModelTest(dues, run).go();
    if (args.length > 1) SEEN.entrySet().stream().sorted(Map.Entry.comparingByKey()).forEach(System.out::println);
    dues.end();
  }
}
