import java.util.Arrays;

/** Each promise of the document with ordinary inputs, the edges that it names, and wrong inputs. */
public final class PromiseTest {
  private static final int BAD = -1, NO = -2, FULL = -3, NONE = -4, NOTHING = -5, NOROW = -6, OPEN = -7, PLACE = -8, KIND = -9, FAULT = -10;
  private static final int BOOLEAN = 0, BYTE = 1, CHAR = 2, SHORT = 3, INT = 4, LONG = 5, FLOAT = 6, DOUBLE = 7;
  private static final int INTS = 8, WORDS = 9, BEADS = 10, PEARLS = 11, ANY = 12, ROWS = 13, BEAD = 14, WORD = 15;
  private static final int A_WORD = 8, A_BEAD = 9, AN_ARRAY = 10, A_NULL = 11;

  private static final Dues DUES = new Dues();

  private static void due(String call, long got, long want) {
    DUES.due(call, got, want);
  }

  private static void dueWent(TapePress x, String call, int result, int spot) {
    due("went(0) after " + call, x.went(0), result);
    due("went(1) after " + call, x.went(1), spot);
  }

  /** An object with an int array of 3, an any of 2, a bead and a word in the slots 0 to 3. */
  private static TapePress mixed() {
    TapePress x = new TapePress();
    x.make(INT, 3);
    x.make(ANY, 2);
    x.make(BEAD, 4);
    x.make(WORD, Words.code("cab"));
    return x;
  }

  private static TapePress full() {
    TapePress x = mixed();
    for (int t = 4; t < 12; t++) x.make(BYTE, 1);
    return x;
  }

  private static TapePress withTape(int... bytes) {
    TapePress x = new TapePress();
    for (int k = 0; k < bytes.length; k++) x.poke(k, bytes[k]);
    return x;
  }

  private static void dueTape(TapePress x, int from, int... bytes) {
    due("count(1)", x.count(1), from + bytes.length);
    for (int k = 0; k < bytes.length; k++) due("tape(" + (from + k) + ")", x.tape(from + k), bytes[k]);
  }

  private static void dueFault(int place, int... bytes) {
    TapePress x = withTape(bytes);
    String item = Arrays.toString(bytes);
    due("skip() of " + item, x.skip(), FAULT);
    dueWent(x, "skip() of " + item, FAULT, place);
    due("read() of " + item, x.read(), FAULT);
    dueWent(x, "read() of " + item, FAULT, place);
    due("readAs(12) of " + item, x.readAs(ANY), FAULT);
    dueWent(x, "readAs(12) of " + item, FAULT, place);
    due("relay(0) of " + item, x.relay(0), FAULT);
    dueWent(x, "relay(0) of " + item, FAULT, place);
    due("count(0) after " + item, x.count(0), 0);
    due("count(1) after " + item, x.count(1), bytes.length);
    due("count(2) after " + item, x.count(2), 0);
  }

  private static void dueSound(int... bytes) {
    due("skip() of " + Arrays.toString(bytes), withTape(bytes).skip(), bytes.length);
  }

  // ---- things

  private static void newObject() {
    TapePress x = new TapePress();
    for (int t = 0; t < 12; t++) due("kind(" + t + ")", x.kind(t), NOTHING);
    for (int what = 0; what <= 8; what++) due("count(" + what + ")", x.count(what), 0);
    dueWent(x, "new", 0, -1);
    due("tape(0)", x.tape(0), BAD);
  }

  private static void make() {
    TapePress x = new TapePress();
    due("make(-1, 0)", x.make(-1, 0), BAD);
    due("make(16, 0)", x.make(16, 0), BAD);
    for (int kind = 0; kind <= 13; kind++) {
      due("make(kind, -1)", x.make(kind, -1), BAD);
      due("make(kind, 13)", x.make(kind, 13), BAD);
      due("make(kind, 2^32)", x.make(kind, 1L << 32), BAD);
    }
    due("make(14, -1)", x.make(BEAD, -1), BAD);
    due("make(14, 6)", x.make(BEAD, 6), BAD);
    for (long notAWord : new long[] {0, -1, 27, 54, 729, 728 * 27, 10460353203L, Long.MIN_VALUE, Long.MAX_VALUE}) {
      due("make(15, " + notAWord + ")", x.make(WORD, notAWord), BAD);
    }
    due("make(0, 12)", x.make(BOOLEAN, 12), 0);
    due("make(13, 0)", x.make(ROWS, 0), 1);
    due("make(14, 5)", x.make(BEAD, 5), 2);
    due("make(15, a)", x.make(WORD, 1), 3);
    due("make(15, zzzzzzz)", x.make(WORD, 10460353202L), 4);
    due("drop(1)", x.drop(1), 4);
    due("make(12, 3) into the lowest", x.make(ANY, 3), 1);
    for (int k = 0; k < 3; k++) due("a new any holds null", x.look(1, k, 0), A_NULL);
    for (int t = 5; t < 12; t++) due("make(7, 1)", x.make(DOUBLE, 1), t);
    due("a new double is 0", x.look(5, 0, 1), 0);
    due("make(0, 0), full", x.make(BOOLEAN, 0), FULL);
    due("make(0, 13), full", x.make(BOOLEAN, 13), BAD);
    x.set(0, BOOLEAN, 0, 1);
    x.drop(0);
    due("make again", x.make(BOOLEAN, 1), 0);
    due("make again is blank", x.look(0, 0, 1), 0);
  }

  private static void kind() {
    TapePress x = new TapePress();
    for (int kind = 0; kind < 12; kind++) x.make(kind, 1);
    for (int kind = 0; kind < 12; kind++) due("kind", x.kind(kind), kind);
    TapePress y = mixed();
    due("kind(1)", y.kind(1), ANY);
    due("kind(2)", y.kind(2), BEAD);
    due("kind(3)", y.kind(3), WORD);
    due("kind(4)", y.kind(4), NOTHING);
    due("kind(-1)", y.kind(-1), BAD);
    due("kind(12)", y.kind(12), BAD);
  }

  private static void size() {
    TapePress x = mixed();
    due("size(0)", x.size(0), 3);
    due("size(1)", x.size(1), 2);
    due("size(2)", x.size(2), NOROW);
    due("size(3)", x.size(3), NOROW);
    due("size(4)", x.size(4), NOTHING);
    due("size(12)", x.size(12), BAD);
    due("size(-1)", x.size(-1), BAD);
  }

  private static void drop() {
    TapePress x = mixed();
    x.put(1, 0, AN_ARRAY, 0);
    x.put(1, 1, AN_ARRAY, 1);
    due("drop(0), held", x.drop(0), NO);
    due("kind(0)", x.kind(0), INT);
    due("drop(1), held by itself alone", x.drop(1), 3);
    due("drop(0)", x.drop(0), 2);
    due("drop(0)", x.drop(0), NOTHING);
    due("drop(12)", x.drop(12), BAD);
    due("drop(-1)", x.drop(-1), BAD);
    due("drop(2)", x.drop(2), 1);
    due("drop(3)", x.drop(3), 0);
  }

  private static void gather() {
    TapePress x = mixed();
    due("gather(12)", x.gather(12), BAD);
    due("gather(4)", x.gather(4), NOTHING);
    x.put(1, 0, AN_ARRAY, 0);
    due("gather(1)", x.gather(1), 2);
    due("kind(0)", x.kind(0), INT);
    due("kind(2)", x.kind(2), NOTHING);
    due("gather(0)", x.gather(0), 1);
    due("count(0)", x.count(0), 1);
    TapePress y = mixed();
    due("gather(2), a bead", y.gather(2), 3);
    due("kind(2)", y.kind(2), BEAD);
  }

  private static void copyOf() {
    TapePress x = mixed();
    x.set(0, INT, 2, 7);
    x.put(1, 0, AN_ARRAY, 0);
    x.put(1, 1, AN_ARRAY, 1);
    due("copyOf(0)", x.copyOf(0), 4);
    x.set(0, INT, 2, 8);
    due("the copy is its own", x.get(4, INT, 2), 7);
    due("copyOf(1)", x.copyOf(1), 5);
    due("shallow", x.look(5, 0, 1), 0);
    due("of the first one, not of itself", x.look(5, 1, 1), 1);
    due("copyOf(2)", x.copyOf(2), NOROW);
    due("copyOf(3)", x.copyOf(3), NOROW);
    due("copyOf(6)", x.copyOf(6), NOTHING);
    due("copyOf(12)", x.copyOf(12), BAD);
    due("copyOf, full", full().copyOf(0), FULL);
    due("copyOf of a bead, full", full().copyOf(2), NOROW);
  }

  // ---- numbers by kind

  private static void get() {
    TapePress x = mixed();
    x.set(0, INT, 1, -16777217);
    due("get int", x.get(0, INT, 1), -16777217);
    due("get int as long", x.get(0, LONG, 1), -16777217);
    due("get int as float is rounded", x.get(0, FLOAT, 1), Float.floatToIntBits(-16777216f));
    due("get int as double", x.get(0, DOUBLE, 1), Double.doubleToLongBits(-16777217.0));
    dueWent(x, "get", 0, -1);
    due("get(0, -1, 0)", x.get(0, -1, 0), 0);
    dueWent(x, "get(0, -1, 0)", BAD, -1);
    x.get(12, 4, 0);
    dueWent(x, "get(12, 4, 0)", BAD, -1);
    x.get(4, 8, 0);
    dueWent(x, "get(4, 8, 0)", BAD, -1);
    x.get(4, 4, 0);
    dueWent(x, "get(4, 4, 0)", NOTHING, -1);
    x.get(2, 4, 9);
    dueWent(x, "get of a bead", NOROW, -1);
    x.get(1, 4, 9);
    dueWent(x, "get of an any", OPEN, -1);
    x.get(0, 0, 3);
    dueWent(x, "get(0, 0, 3)", PLACE, -1);
    x.get(0, 4, -1);
    dueWent(x, "get(0, 4, -1)", PLACE, -1);
    x.get(0, 3, 2);
    dueWent(x, "get int as short", KIND, -1);
    x.make(FLOAT, 1);
    x.set(4, FLOAT, 0, 3);
    due("get float as double", x.get(4, DOUBLE, 0), Double.doubleToLongBits(0.375));
    x.make(DOUBLE, 1);
    x.get(5, FLOAT, 0);
    dueWent(x, "get double as float", KIND, -1);
    x.make(LONG, 1);
    for (long v : new long[] {1, -1, 5, 16777217, 9007199254740993L, Long.MAX_VALUE, Long.MIN_VALUE, 123456789012345L}) {
      x.set(6, LONG, 0, v);
      due("get " + v + " as float", x.get(6, FLOAT, 0), Float.floatToIntBits((float) v));
      due("get " + v + " as double", x.get(6, DOUBLE, 0), Double.doubleToLongBits((double) v));
      x.set(4, FLOAT, 0, v);
      due("get float " + v, x.get(4, FLOAT, 0), Float.floatToIntBits((float) v * 0.125f));
      due("get float as double " + v, x.get(4, DOUBLE, 0), Double.doubleToLongBits((float) v * 0.125f));
      x.set(5, DOUBLE, 0, v);
      due("get double " + v, x.get(5, DOUBLE, 0), Double.doubleToLongBits((double) v * 0.125));
    }
  }

  private static void set() {
    TapePress x = mixed();
    long[][] ranges = {{0, 1}, {-128, 127}, {0, 65535}, {-32768, 32767}, {Integer.MIN_VALUE, Integer.MAX_VALUE}};
    for (int kind = 0; kind <= 4; kind++) {
      int t = x.make(kind, 1);
      for (long v : ranges[kind]) {
        due("set", x.set(t, kind, 0, v), 0);
        due("look", x.look(t, 0, 1), v);
      }
      due("set below", x.set(t, kind, 0, ranges[kind][0] - 1), BAD);
      due("set above", x.set(t, kind, 0, ranges[kind][1] + 1), BAD);
      due("unchanged", x.look(t, 0, 1), ranges[kind][1]);
    }
    due("set(0, 8, 0, 0)", x.set(0, 8, 0, 0), BAD);
    due("set(-1, 4, 0, 0)", x.set(-1, 4, 0, 0), BAD);
    due("set(10, 0, 0, 2)", x.set(10, 0, 0, 2), BAD);
    due("set(10, 0, 0, 1)", x.set(10, 0, 0, 1), NOTHING);
    due("set(3, 4, 0, 0)", x.set(3, 4, 0, 0), NOROW);
    due("set(1, 4, 5, 0)", x.set(1, 4, 5, 0), OPEN);
    due("set(0, 7, 3, 0)", x.set(0, 7, 3, 0), PLACE);
    due("set(0, 5, 0, 0)", x.set(0, 5, 0, 0), KIND);
    due("set(0, 0, 0, 1)", x.set(0, 0, 0, 1), KIND);
    due("set(0, 2, 0, 65535)", x.set(0, 2, 0, 65535), 0);
    due("look(0, 0, 0) is of the array's kind", x.look(0, 0, 0), INT);
    x.get(0, 3, 0);
    due("set", x.set(0, 4, 0, 1), 0);
    dueWent(x, "set, which does not change them", KIND, -1);
  }

  private static void usable() {
    int[] gets = {1, 250, 244, 248, 240, 224, 192, 128};
    int[] sets = {1, 2, 4, 10, 30, 62, 126, 254};
    TapePress x = new TapePress();
    for (int kind = 0; kind <= 7; kind++) {
      x.make(kind, 1);
      due("usable(" + kind + ", 0, 0)", x.usable(kind, 0, 0), gets[kind]);
      due("usable(" + kind + ", 0, 1)", x.usable(kind, 0, 1), sets[kind]);
    }
    x.make(ANY, 1);
    x.make(WORD, 1);
    due("usable of an any", x.usable(8, 0, 0), 0);
    due("usable of an any", x.usable(8, 0, 1), 0);
    due("usable of an any", x.usable(8, 1, 1), PLACE);
    due("usable of a word", x.usable(9, 0, 1), NOROW);
    due("usable of nothing", x.usable(10, 0, 1), NOTHING);
    due("usable(10, 0, 2)", x.usable(10, 0, 2), BAD);
    due("usable(0, 0, -1)", x.usable(0, 0, -1), BAD);
    due("usable(12, 0, 0)", x.usable(12, 0, 0), BAD);
    due("usable(0, -1, 0)", x.usable(0, -1, 0), PLACE);
    for (int what = 4; what <= 8; what++) due("count(" + what + ")", x.count(what), 0);
  }

  // ---- what stands in cells

  private static void look() {
    TapePress x = mixed();
    x.make(ANY, 12);
    long[][] values = {
      {0, 1}, {1, -128}, {2, 65535}, {3, -5}, {4, 9}, {5, Long.MIN_VALUE}, {6, 3}, {7, -3},
      {A_WORD, Words.code("zz")}, {A_BEAD, 2}, {AN_ARRAY, 4}, {A_NULL, 0},
    };
    for (int what = 0; what < 12; what++) {
      due("put", x.put(4, what, what, values[what][1]), 0);
      due("look(4, " + what + ", 0)", x.look(4, what, 0), what);
      long shown = what == 6 ? Float.floatToIntBits(0.375f) : what == 7 ? Double.doubleToLongBits(-0.375) : values[what][1];
      due("look(4, " + what + ", 1)", x.look(4, what, 1), shown);
      dueWent(x, "look", 0, -1);
    }
    due("look(0, 0, 2)", x.look(0, 0, 2), 0);
    dueWent(x, "look(0, 0, 2)", BAD, -1);
    x.look(12, 0, 0);
    dueWent(x, "look(12, 0, 0)", BAD, -1);
    x.look(5, 0, 0);
    dueWent(x, "look(5, 0, 0)", NOTHING, -1);
    x.look(2, 0, 0);
    dueWent(x, "look(2, 0, 0)", NOROW, -1);
    x.look(0, 3, 0);
    dueWent(x, "look(0, 3, 0)", PLACE, -1);
  }

  private static void put() {
    TapePress x = mixed();
    due("put(0, 0, -1, 0)", x.put(0, 0, -1, 0), BAD);
    due("put(0, 0, 12, 0)", x.put(0, 0, 12, 0), BAD);
    due("put(-1, 0, 11, 0)", x.put(-1, 0, 11, 0), BAD);
    due("put(5, 0, 11, 1)", x.put(5, 0, A_NULL, 1), BAD);
    due("put(1, 0, 10, 12)", x.put(1, 0, AN_ARRAY, 12), BAD);
    due("put(1, 0, 10, -1)", x.put(1, 0, AN_ARRAY, -1), BAD);
    due("put(1, 0, 10, 2^32)", x.put(1, 0, AN_ARRAY, 1L << 32), BAD);
    due("put(1, 0, 10, 2), a bead", x.put(1, 0, AN_ARRAY, 2), BAD);
    due("put(1, 0, 10, 5), nothing", x.put(1, 0, AN_ARRAY, 5), BAD);
    due("put(1, 0, 9, 6)", x.put(1, 0, A_BEAD, 6), BAD);
    due("put(1, 0, 8, 27)", x.put(1, 0, A_WORD, 27), BAD);
    due("put(1, 0, 1, 128)", x.put(1, 0, BYTE, 128), BAD);
    due("put(5, 0, 11, 0)", x.put(5, 0, A_NULL, 0), NOTHING);
    due("put(3, 0, 11, 0)", x.put(3, 0, A_NULL, 0), NOROW);
    due("put(0, 3, 11, 0)", x.put(0, 3, A_NULL, 0), PLACE);
    due("put(0, 0, 11, 0)", x.put(0, 0, A_NULL, 0), KIND);
    acceptance();
  }

  /** Which values each kind accepts: bit what of the set, and bit 12 for the bead 1, bit 13 for an array that is not int. */
  private static void acceptance() {
    int null11 = 1 << 11;
    int[] sets = {
      1, 2, 4, 10, 30, 62, 126, 254, 1 << 4 | null11, 1 << 8 | null11, 1 << 9 | 1 << 12 | null11, 1 << 9 | null11,
      (1 << 14) - 1, 1 << 10 | null11,
    };
    for (int kind = 0; kind <= 13; kind++) {
      int accepted = 0;
      for (int what = 0; what <= 13; what++) {
        TapePress x = new TapePress();
        x.make(kind, 1);
        x.make(INT, 2);
        x.make(LONG, 2);
        long v = what == 8 || what == 12 || what == 13 ? 1 : what == 9 ? 3 : what == 10 ? 1 : 0;
        int real = what == 12 ? A_BEAD : what == 13 ? AN_ARRAY : what;
        int answer = x.put(0, 0, real, what == 13 ? 2 : v);
        if (answer == 0) accepted |= 1 << what;
        else due("put into kind " + kind + " of " + what, answer, KIND);
        x.make(ANY, 1);
        x.put(3, 0, real, what == 13 ? 2 : v);
        due("carry into kind " + kind + " of " + what, x.carry(3, 0, 0, 0, 1), answer == 0 ? 1 : 0);
      }
      due("what kind " + kind + " accepts", accepted, sets[kind]);
    }
  }

  private static void swap() {
    TapePress x = mixed();
    x.set(0, INT, 0, 5);
    due("swap(0, 0, 2)", x.swap(0, 0, 2), 0);
    due("get(0, 4, 2)", x.get(0, INT, 2), 5);
    due("get(0, 4, 0)", x.get(0, INT, 0), 0);
    due("swap(0, 2, 2)", x.swap(0, 2, 2), 0);
    due("get(0, 4, 2)", x.get(0, INT, 2), 5);
    x.put(1, 0, A_BEAD, 3);
    x.put(1, 1, FLOAT, 8);
    due("swap(1, 1, 0)", x.swap(1, 1, 0), 0);
    due("look(1, 0, 0)", x.look(1, 0, 0), FLOAT);
    due("look(1, 1, 1)", x.look(1, 1, 1), 3);
    due("swap(0, 3, 0)", x.swap(0, 3, 0), PLACE);
    due("swap(0, 0, -1)", x.swap(0, 0, -1), PLACE);
    due("swap(2, 0, 0)", x.swap(2, 0, 0), NOROW);
    due("swap(4, 0, 0)", x.swap(4, 0, 0), NOTHING);
    due("swap(12, 0, 0)", x.swap(12, 0, 0), BAD);
    due("count(7)", x.count(7), 0);
  }

  private static void went() {
    TapePress x = mixed();
    due("went(2)", x.went(2), BAD);
    due("went(-1)", x.went(-1), BAD);
    x.skip();
    dueWent(x, "skip()", FAULT, 0);
    x.make(0, 99);
    x.set(9, 0, 0, 0);
    x.put(9, 0, 0, 0);
    x.usable(0, 9, 0);
    x.swap(0, 9, 9);
    x.copyOf(9);
    x.lay(9);
    x.poke(9, 9);
    x.cut(9);
    x.seek(9);
    x.slack(0);
    x.find(0);
    x.laid(9, 0);
    x.part(0, 9);
    x.twin(0);
    x.mode(0);
    x.count(0);
    dueWent(x, "calls that do not change them", FAULT, 0);
    x.get(0, INT, 0);
    dueWent(x, "get(0, 4, 0)", 0, -1);
  }

  // ---- whole rows

  private static void carry() {
    TapePress x = mixed();
    x.make(LONG, 3);
    x.make(SHORT, 3);
    for (int k = 0; k < 3; k++) x.set(0, INT, k, k + 1);
    due("carry ints to longs", x.carry(0, 0, 4, 1, 2), 2);
    dueWent(x, "carry", 0, -1);
    due("a long", x.look(4, 2, 1), 2);
    due("carry past the end of t", x.carry(0, 1, 4, 0, 3), 2);
    dueWent(x, "carry past the end of t", PLACE, 2);
    due("carry past the end of u", x.carry(0, 0, 1, 1, 2), 1);
    dueWent(x, "carry past the end of u", PLACE, 1);
    due("carry ints to shorts", x.carry(0, 0, 5, 0, 2), 0);
    dueWent(x, "carry ints to shorts", KIND, 0);
    due("carry nothing", x.carry(0, 99, 5, -99, 0), 0);
    dueWent(x, "carry nothing", 0, -1);
    due("carry from -1", x.carry(0, -1, 4, 0, 1), 0);
    dueWent(x, "carry from -1", PLACE, 0);
    due("carry from the greatest int", x.carry(0, Integer.MAX_VALUE, 4, Integer.MAX_VALUE, 12), 0);
    dueWent(x, "carry from the greatest int", PLACE, 0);
    due("PLACE before KIND", x.carry(0, 0, 5, 3, 1), 0);
    dueWent(x, "carry", PLACE, 0);
    due("carry within", x.carry(0, 0, 0, 1, 2), 2);
    due("one after the other", x.get(0, INT, 2), 1);
    x.put(1, 0, INT, 7);
    x.put(1, 1, A_NULL, 0);
    due("carry up to a null", x.carry(1, 0, 0, 0, 2), 1);
    dueWent(x, "carry up to a null", KIND, 1);
    due("what came before it stays", x.get(0, INT, 0), 7);
    due("carry(0, 0, 0, 0, 13)", x.carry(0, 0, 0, 0, 13), BAD);
    due("carry(0, 0, 0, 0, -1)", x.carry(0, 0, 0, 0, -1), BAD);
    due("carry(12, 0, 9, 0, 1)", x.carry(12, 0, 9, 0, 1), BAD);
    due("carry(9, 0, 12, 0, 1)", x.carry(9, 0, 12, 0, 1), BAD);
    due("carry(2, 0, 9, 0, 1)", x.carry(2, 0, 9, 0, 1), NOTHING);
    due("carry(9, 0, 2, 0, 1)", x.carry(9, 0, 2, 0, 1), NOTHING);
    due("carry(2, 0, 0, 0, 1)", x.carry(2, 0, 0, 0, 1), NOROW);
    due("carry(0, 0, 3, 0, 0)", x.carry(0, 0, 3, 0, 0), NOROW);
    dueWent(x, "carry", NOROW, -1);
    due("count(8)", x.count(8), 0);
  }

  private static void convert() {
    TapePress x = mixed();
    x.set(0, INT, 1, 16777217);
    due("convert(0, 6)", x.convert(0, FLOAT), 4);
    dueWent(x, "convert", 0, -1);
    due("rounded", x.look(4, 1, 1), Float.floatToIntBits(16777216f));
    due("convert(0, 8)", x.convert(0, INTS), 5);
    due("convert(0, 12)", x.convert(0, ANY), 6);
    due("unchanged", x.look(6, 1, 0), INT);
    due("convert(6, 5)", x.convert(6, LONG), 7);
    due("convert(5, 4)", x.convert(5, INT), 8);
    x.put(6, 1, A_NULL, 0);
    due("convert(6, 8)", x.convert(6, INTS), 9);
    due("convert(6, 4)", x.convert(6, INT), KIND);
    dueWent(x, "convert(6, 4)", KIND, 1);
    due("convert(1, 13) of nulls", x.convert(1, ROWS), 10);
    x.put(1, 1, AN_ARRAY, 0);
    due("convert(1, 13) with an int array", x.convert(1, ROWS), 11);
    due("the same array", x.look(11, 1, 1), 0);
    due("convert, full", x.convert(0, LONG), FULL);
    dueWent(x, "convert, full", FULL, -1);
    due("KIND before FULL", x.convert(0, BYTE), KIND);
    dueWent(x, "convert", KIND, 0);
    due("convert(0, 14)", x.convert(0, 14), BAD);
    due("convert(0, -1)", x.convert(0, -1), BAD);
    due("convert(12, 0)", x.convert(12, 0), BAD);
    due("convert(2, 0)", x.convert(2, 0), NOROW);
    due("convert of nothing", mixed().convert(4, 0), NOTHING);
    TapePress y = new TapePress();
    y.make(BOOLEAN, 0);
    due("an empty array is converted to any kind", y.convert(0, PEARLS), 1);
    due("size(1)", y.size(1), 0);
  }

  private static void shape() {
    TapePress x = mixed();
    x.make(WORDS, 4);
    String[] names = {"int", "long", "double", "short"};
    for (int k = 0; k < 4; k++) x.put(4, k, A_WORD, Words.code(names[k]));
    x.set(0, INT, 2, 5);
    due("shape(4, 0)", x.shape(4, 0), 5);
    dueWent(x, "shape", 0, -1);
    due("kind(5)", x.kind(5), ANY);
    due("size(5), of the shorter one", x.size(5), 3);
    due("look(5, 1, 0)", x.look(5, 1, 0), LONG);
    due("look(5, 2, 0)", x.look(5, 2, 0), DOUBLE);
    due("look(5, 2, 1)", x.look(5, 2, 1), Double.doubleToLongBits(5));
    x.make(INT, 12);
    due("shape(4, 6)", x.shape(4, 6), KIND);
    dueWent(x, "shape(4, 6), int to short", KIND, 3);
    x.put(4, 1, A_WORD, Words.code("ints"));
    due("shape with ints", x.shape(4, 0), KIND);
    dueWent(x, "shape with ints", KIND, 1);
    x.put(4, 0, A_NULL, 0);
    due("shape with a null", x.shape(4, 0), KIND);
    dueWent(x, "shape with a null", KIND, 0);
    x.make(BYTE, 0);
    due("shape of no elements", x.shape(4, 7), 8);
    due("size(8)", x.size(8), 0);
    due("shape(12, 0)", x.shape(12, 0), BAD);
    due("shape(9, -1)", x.shape(9, -1), BAD);
    due("shape(2, 9)", x.shape(2, 9), NOTHING);
    due("shape(9, 2)", x.shape(9, 2), NOTHING);
    due("shape(2, 0)", x.shape(2, 0), NOROW);
    due("shape(0, 2)", x.shape(0, 2), NOROW);
    due("shape(0, 1)", x.shape(0, 1), NO);
    due("shape(4, 1)", x.shape(4, 1), OPEN);
    dueWent(x, "shape(4, 1)", OPEN, -1);
    while (x.make(BYTE, 0) >= 0) continue;
    due("shape, full", x.shape(4, 7), FULL);
    due("KIND before FULL", x.shape(4, 0), KIND);
  }

  private static void sum() {
    TapePress x = mixed();
    for (int k = 0; k < 3; k++) x.set(0, INT, k, Integer.MAX_VALUE);
    int wrapped = Integer.MAX_VALUE * 3;
    due("sum as int overflows", x.sum(0, INT), wrapped);
    dueWent(x, "sum", 0, -1);
    due("sum as long", x.sum(0, LONG), 3L * Integer.MAX_VALUE);
    float f = (float) Integer.MAX_VALUE;
    due("sum as float", x.sum(0, FLOAT), Float.floatToIntBits(f + f + f));
    due("sum as double", x.sum(0, DOUBLE), Double.doubleToLongBits(3.0 * Integer.MAX_VALUE));
    x.make(LONG, 3);
    long[] longs = {Long.MAX_VALUE, Long.MAX_VALUE, -1};
    for (int k = 0; k < 3; k++) x.set(4, LONG, k, longs[k]);
    due("sum of longs overflows", x.sum(4, LONG), Long.MAX_VALUE + Long.MAX_VALUE - 1);
    due("sum of longs as float", x.sum(4, FLOAT), Float.floatToIntBits((float) Long.MAX_VALUE + (float) Long.MAX_VALUE - 1f));
    x.make(FLOAT, 3);
    long[] eighths = {16777216L * 8, 8, 8};
    for (int k = 0; k < 3; k++) x.set(5, FLOAT, k, eighths[k]);
    due("floats are rounded at each addition", x.sum(5, FLOAT), Float.floatToIntBits(16777216f));
    due("floats as doubles are not", x.sum(5, DOUBLE), Double.doubleToLongBits(16777218.0));
    for (int k = 0; k < 3; k++) x.set(5, FLOAT, k, k == 0 ? -5 : k == 1 ? 5 : 0);
    due("the sum 0 is +0", x.sum(5, FLOAT), 0);
    due("sum(4, 4)", x.sum(4, INT), 0);
    dueWent(x, "sum of longs as int", KIND, 0);
    due("sum(0, 3)", x.sum(0, 3), 0);
    dueWent(x, "sum(0, 3)", BAD, -1);
    x.sum(0, 8);
    dueWent(x, "sum(0, 8)", BAD, -1);
    x.sum(12, 4);
    dueWent(x, "sum(12, 4)", BAD, -1);
    x.sum(9, 4);
    dueWent(x, "sum(9, 4)", NOTHING, -1);
    x.sum(2, 4);
    dueWent(x, "sum(2, 4)", NOROW, -1);
    x.sum(1, 4);
    dueWent(x, "sum(1, 4)", OPEN, -1);
    x.make(BOOLEAN, 0);
    due("sum of no elements", x.sum(6, INT), 0);
    dueWent(x, "sum of no elements", 0, -1);
    x.make(BOOLEAN, 1);
    x.sum(7, INT);
    dueWent(x, "sum of booleans", KIND, 0);
  }

  /** Twelve elements, as many as an array can have, through all that goes over whole arrays. */
  private static void longestRows() {
    TapePress x = new TapePress();
    x.make(BEAD, 0);
    x.make(SHORT, 12);
    x.make(WORDS, 12);
    for (int k = 0; k < 12; k++) {
      x.set(1, SHORT, k, 100 * k);
      x.put(2, k, A_WORD, Words.code(NAMES[k % 5 + 3]));
    }
    x.drop(0);
    due("shape into slot 0", x.shape(2, 1), 0);
    due("size(0)", x.size(0), 12);
    due("look(0, 11, 0)", x.look(0, 11, 0), INT);
    due("look(0, 11, 1)", x.look(0, 11, 1), 1100);
    x.drop(0);
    due("convert into slot 0", x.convert(1, DOUBLE), 0);
    due("look(0, 11, 1)", x.look(0, 11, 1), Double.doubleToLongBits(1100));
    due("sum as int", x.sum(1, INT), 6600);
    due("sum as float", x.sum(1, FLOAT), Float.floatToIntBits(6600));
    due("sum as double", x.sum(0, DOUBLE), Double.doubleToLongBits(6600));
    due("copyOf", x.copyOf(2), 3);
    due("carry", x.carry(1, 0, 0, 0, 12), 12);
    due("twin", x.twin(2), 4);
    due("part", x.part(2, 4), NONE);
    due("drop", x.drop(0), 4);
    for (int m = 0; m <= 2; m++) {
      x.mode(m);
      x.cut(0);
      x.lay(1);
      due("readAs into slot 0", x.readAs(ANY), 0);
      due("look(0, 11, 1)", x.look(0, 11, 1), 1100);
      x.drop(0);
      x.seek(0);
      due("read into slot 0", x.read(), 0);
      due("find", x.find(1), 0);
      x.drop(0);
    }
  }

  // ---- the tape

  private static void mode() {
    TapePress x = new TapePress();
    due("mode(2)", x.mode(2), 0);
    due("mode(3)", x.mode(3), BAD);
    due("mode(-1)", x.mode(-1), BAD);
    due("mode(1)", x.mode(1), 2);
    due("count(3)", x.count(3), 1);
    due("mode(0)", x.mode(0), 1);
  }

  private static void lay() {
    TapePress x = mixed();
    due("lay(2)", x.lay(2), 2);
    due("lay(3)", x.lay(3), 5);
    dueTape(x, 0, 9, 4, 8, 3, 99, 97, 98);
    x.put(1, 0, AN_ARRAY, 1);
    x.put(1, 1, AN_ARRAY, 0);
    x.set(0, INT, 2, -2);
    x.cut(0);
    due("lay(1)", x.lay(1), 18);
    dueTape(x, 0, 28, 2, 10, 0, 20, 3, 0, 0, 0, 0, 0, 0, 0, 0, 255, 255, 255, 254);
    due("lay(12)", x.lay(12), BAD);
    due("lay(-1)", x.lay(-1), BAD);
    due("lay(4)", x.lay(4), NOTHING);
    layObjects();
    layForms();
    layUpTo200();
  }

  private static void layObjects() {
    TapePress x = new TapePress();
    x.make(ANY, 11);
    x.make(INT, 0);
    long[][] values = {
      {0, 1}, {1, -1}, {2, 258}, {3, -2}, {4, 1}, {5, -1}, {6, -12}, {7, 0}, {A_WORD, 1}, {A_BEAD, 5}, {AN_ARRAY, 1},
    };
    for (int k = 0; k < 11; k++) x.put(0, k, (int) values[k][0], values[k][1]);
    x.lay(0);
    dueTape(x, 0, 28, 11, 0, 1, 1, 255, 2, 1, 2, 3, 255, 254, 4, 0, 0, 0, 1, 5, 255, 255, 255, 255, 255, 255, 255, 255,
        6, 2, 255, 255, 255, 253, 7, 0, 0, 0, 0, 0, 0, 0, 0, 0, 8, 1, 97, 9, 5, 20, 0);
    TapePress y = new TapePress();
    y.make(ROWS, 4);
    y.make(INT, 1);
    y.make(INT, 0);
    y.put(0, 0, AN_ARRAY, 2);
    y.put(0, 1, AN_ARRAY, 1);
    y.put(0, 3, AN_ARRAY, 2);
    y.lay(0);
    dueTape(y, 0, 29, 4, 20, 0, 20, 1, 0, 0, 0, 0, 11, 10, 1);
    y.cut(0);
    y.make(WORDS, 7);
    for (int k = 0; k < 7; k++) y.put(3, k, A_WORD, Words.code("aaaaaaa".substring(k)));
    due("lay of words of 7 to 1 letters", y.lay(3), 2 + 2 * 7 + 28);
    due("skip() of them", y.skip(), 2 + 2 * 7 + 28);
    dueTape(y, 41, 8, 1, 97);
  }

  private static void layForms() {
    TapePress x = new TapePress();
    x.make(SHORT, 5);
    long[] numbers = {7, 7, -1, 32767, -32768};
    for (int k = 0; k < 5; k++) x.set(0, SHORT, k, numbers[k]);
    x.mode(1);
    due("lay runs", x.lay(0), 14);
    dueTape(x, 0, 35, 5, 2, 0, 7, 1, 255, 255, 1, 127, 255, 1, 128, 0);
    x.cut(0);
    x.mode(2);
    due("lay steps", x.lay(0), 11);
    // The steps are 7, 0, -8, 32768 and -65535: 14, 0, 15, 65536 and 131069.
    dueTape(x, 0, 51, 5, 14, 0, 15, 128, 128, 4, 253, 255, 7);
    TapePress y = new TapePress();
    y.make(LONG, 3);
    y.set(0, LONG, 0, Long.MIN_VALUE);
    y.set(0, LONG, 1, Long.MAX_VALUE);
    y.set(0, LONG, 2, 62);
    y.mode(2);
    due("lay long steps", y.lay(0), 23);
    // The steps are -2^63, -1 (2^64 - 1 with overflow) and 62 - (2^63 - 1).
    dueTape(y, 0, 53, 3, 255, 255, 255, 255, 255, 255, 255, 255, 255, 1, 1, 129, 255, 255, 255, 255, 255, 255, 255, 255, 1);
    for (int kind : new int[] {BOOLEAN, FLOAT, DOUBLE}) {
      TapePress z = new TapePress();
      z.make(kind, 0);
      z.mode(2);
      z.lay(0);
      dueTape(z, 0, 16 + kind, 0);
      z.cut(0);
      z.mode(1);
      z.lay(0);
      dueTape(z, 0, 32 + kind, 0);
    }
  }

  private static void layUpTo200() {
    TapePress x = new TapePress();
    x.make(LONG, 12);
    x.make(BYTE, 2);
    x.lay(0);
    due("lay(0), 196 bytes", x.lay(0), 98);
    due("lay(1), 200 bytes", x.lay(1), 4);
    due("lay(1), more than 200", x.lay(1), FULL);
    due("count(1)", x.count(1), 200);
    x.cut(197);
    due("lay(1), 201 bytes", x.lay(1), FULL);
    due("count(1)", x.count(1), 197);
  }

  private static void tape() {
    TapePress x = withTape(0, 255);
    due("tape(0)", x.tape(0), 0);
    due("tape(1)", x.tape(1), 255);
    due("tape(2)", x.tape(2), BAD);
    due("tape(-1)", x.tape(-1), BAD);
    due("tape(least)", x.tape(Integer.MIN_VALUE), BAD);
  }

  private static void poke() {
    TapePress x = new TapePress();
    due("poke(1, 0)", x.poke(1, 0), BAD);
    due("poke(0, 256)", x.poke(0, 256), BAD);
    due("poke(0, -1)", x.poke(0, -1), BAD);
    due("poke(200, 0)", x.poke(200, 0), BAD);
    due("poke(0, 255)", x.poke(0, 255), NONE);
    due("poke(0, 3)", x.poke(0, 3), 255);
    due("tape(0)", x.tape(0), 3);
    for (int k = 1; k < 200; k++) due("poke", x.poke(k, k), NONE);
    due("poke(200, 0)", x.poke(200, 0), FULL);
    due("poke(200, 256)", x.poke(200, 256), BAD);
    due("poke(201, 0)", x.poke(201, 0), BAD);
    due("poke(199, 0)", x.poke(199, 0), 199);
    due("count(1)", x.count(1), 200);
  }

  private static void cut() {
    TapePress x = withTape(9, 1, 9, 2);
    x.seek(3);
    due("cut(5)", x.cut(5), BAD);
    due("cut(-1)", x.cut(-1), BAD);
    due("cut(4)", x.cut(4), 0);
    due("count(2)", x.count(2), 3);
    due("cut(3)", x.cut(3), 1);
    due("count(2)", x.count(2), 3);
    due("cut(1)", x.cut(1), 2);
    due("count(2)", x.count(2), 1);
    due("tape(1)", x.tape(1), BAD);
    due("cut(0)", x.cut(0), 1);
    due("count(2)", x.count(2), 0);
  }

  private static void seek() {
    TapePress x = withTape(9, 1);
    due("seek(3)", x.seek(3), BAD);
    due("seek(-1)", x.seek(-1), BAD);
    due("seek(2)", x.seek(2), 0);
    due("seek(0)", x.seek(0), 2);
    due("count(2)", x.count(2), 0);
  }

  private static void read() {
    TapePress x = withTape(9, 3, 8, 2, 97, 122, 28, 4, 13 + 16, 2, 20, 1, 0, 0, 1, 0, 10, 2, 10, 0, 10, 2, 11);
    due("read()", x.read(), 0);
    due("kind(0)", x.kind(0), BEAD);
    due("count(2)", x.count(2), 2);
    due("read()", x.read(), 1);
    due("kind(1)", x.kind(1), WORD);
    x.drop(0);
    due("read()", x.read(), 0);
    dueWent(x, "read()", 0, -1);
    due("count(2)", x.count(2), 23);
    due("kind(0)", x.kind(0), ANY);
    due("kind(2)", x.kind(2), ROWS);
    due("kind(3)", x.kind(3), INT);
    due("look(0, 0, 1)", x.look(0, 0, 1), 2);
    due("look(0, 1, 1)", x.look(0, 1, 1), 0);
    due("look(0, 2, 1)", x.look(0, 2, 1), 3);
    due("look(0, 3, 0)", x.look(0, 3, 0), A_NULL);
    due("look(2, 0, 1)", x.look(2, 0, 1), 3);
    due("look(2, 1, 1)", x.look(2, 1, 1), 3);
    due("look(3, 0, 1)", x.look(3, 0, 1), 256);
    for (int t = 4; t < 10; t++) x.make(BYTE, 0);
    x.seek(6);
    due("read(), two slots are too few", x.read(), FULL);
    dueWent(x, "read()", FULL, -1);
    due("count(2)", x.count(2), 6);
    due("count(0)", x.count(0), 10);
    x.drop(4);
    due("read()", x.read(), 4);
    due("kind(10)", x.kind(10), ROWS);
    due("kind(11)", x.kind(11), INT);
    due("read()", x.read(), FAULT);
    dueWent(x, "read() at the end", FAULT, 23);
    x.seek(0);
    due("read(), full", x.read(), FULL);
    x.poke(1, 6);
    due("FAULT before FULL", x.read(), FAULT);
    readNumbers();
  }

  private static void readNumbers() {
    TapePress x = withTape(0x26, 3, 2, 66, 255, 255, 255, 255, 1, 1, 0, 255, 255, 255, 52, 2, 255, 255, 255, 255, 15, 0);
    due("read() float runs", x.read(), 0);
    due("-2^63", x.look(0, 1, 1), Float.floatToIntBits(-9223372036854775808f));
    due("the greatest m", x.look(0, 2, 1), Float.floatToIntBits(16777215 * 0.25f));
    due("read() int steps", x.read(), 1);
    due("the least int", x.look(1, 0, 1), Integer.MIN_VALUE);
  }

  private static void faults() {
    dueFault(0);
    for (int tag : new int[] {0, 4, 7, 10, 11, 12, 15, 30, 31, 40, 48, 54, 55, 64, 255}) dueFault(0, tag, 0, 0, 0);
    dueFault(1, 8);
    dueFault(1, 8, 0);
    dueFault(1, 8, 8, 97, 97, 97, 97, 97, 97, 97, 97);
    dueFault(2, 8, 1, 96);
    dueFault(3, 8, 2, 97, 123);
    dueFault(3, 8, 2, 97);
    dueFault(1, 9);
    dueFault(1, 9, 6);
    dueFault(1, 20);
    dueFault(1, 20, 13);
    dueFault(2, 20, 1, 0, 0, 0);
    dueFault(4, 19, 2, 0, 0, 0);
    dueFault(2, 16, 1, 2);
    dueFault(3, 16, 2, 1, 255);
    dueSound(16, 2, 1, 0);
    dueSound(27, 2, 9, 3, 11);
    dueFault(3, 27, 1, 9, 2);
    dueFault(2, 27, 1, 8, 1, 97);
    dueFault(2, 24, 1, 3, 0, 0);
    dueFault(2, 25, 1, 9, 1);
    dueFault(2, 26, 1, 8, 1, 97);
    dueFault(2, 26, 1, 20, 0);
    dueFault(2, 28, 1, 12);
    dueFault(2, 28, 1, 30, 0);
    dueFault(2, 28, 1);
    dueSound(28, 1, 10, 0);
    dueFault(3, 28, 1, 10, 1);
    dueFault(3, 28, 1, 10);
    dueFault(3, 28, 1, 0, 2);
    dueFault(2, 29, 1, 21, 0);
    dueFault(2, 29, 1, 4, 0, 0, 0, 0);
    dueFault(3, 29, 1, 10, 0);
    dueSound(29, 4, 20, 0, 36, 0, 52, 0, 10, 2);
    dueFault(5, 29, 2, 52, 0, 10, 2);
    runFaults();
    scaledFaults();
    stepFaults();
    arrayFaults();
  }

  private static void runFaults() {
    dueFault(2, 33, 1, 0, 5);
    dueFault(2, 33, 1, 2, 5);
    dueFault(4, 33, 3, 2, 5, 2, 6);
    dueFault(3, 33, 1, 1);
    dueFault(2, 33, 1);
    dueFault(3, 32, 2, 2, 2);
    dueSound(33, 3, 1, 5, 1, 5, 1, 5);
    dueSound(33, 0);
  }

  private static void scaledFaults() {
    dueSound(22, 1, 66, 0, 0, 0, 1);
    dueFault(2, 22, 1, 67, 0, 0, 0, 1);
    dueFault(2, 22, 1, 0, 0, 0, 0, 2);
    dueFault(2, 22, 1, 1, 0, 0, 0, 0);
    dueSound(22, 1, 0, 0, 0, 0, 0);
    dueFault(2, 22, 1, 0, 1, 0, 0, 1);
    dueSound(22, 1, 0, 0, 255, 255, 255);
    dueFault(2, 22, 1, 0, 254, 255, 255, 255);
    dueSound(22, 1, 0, 255, 0, 0, 1);
    dueFault(2, 22, 1, 0, 128, 0, 0, 0);
    dueSound(22, 1, 64, 0, 0, 0, 3);
    dueFault(2, 22, 1, 65, 0, 0, 0, 3);
    dueSound(22, 1, 42, 0, 255, 255, 255);
    dueFault(2, 22, 1, 43, 0, 255, 255, 255);
    dueFault(2, 22, 1, 0, 0, 0, 0);
    dueSound(23, 1, 13, 0, 31, 255, 255, 255, 255, 255, 255);
    dueFault(2, 23, 1, 14, 0, 31, 255, 255, 255, 255, 255, 255);
    dueFault(2, 23, 1, 0, 0, 32, 0, 0, 0, 0, 0, 1);
    dueFault(2, 23, 1, 0, 128, 0, 0, 0, 0, 0, 0, 0);
    dueSound(23, 1, 66, 255, 255, 255, 255, 255, 255, 255, 255);
    dueFault(2, 23, 1, 0, 0, 0, 0, 0, 0, 0, 0);
    dueSound(28, 1, 6, 0, 0, 0, 0, 1);
    dueFault(3, 28, 1, 6, 0, 0, 0, 0, 2);
  }

  private static void stepFaults() {
    dueSound(49, 1, 0);
    dueFault(2, 49, 1, 128, 0);
    dueFault(2, 49, 1, 128);
    dueFault(2, 49, 1);
    dueSound(49, 1, 254, 1);
    dueSound(49, 1, 255, 1);
    dueFault(2, 49, 1, 128, 2);
    dueFault(2, 49, 1, 129, 2);
    dueFault(4, 49, 2, 254, 1, 2);
    dueSound(50, 1, 254, 255, 7);
    dueFault(2, 50, 1, 1);
    dueFault(2, 50, 1, 128, 128, 8);
    dueSound(53, 1, 255, 255, 255, 255, 255, 255, 255, 255, 255, 1);
    dueFault(2, 53, 1, 255, 255, 255, 255, 255, 255, 255, 255, 255, 2);
    dueFault(2, 53, 1, 255, 255, 255, 255, 255, 255, 255, 255, 255, 0);
    dueFault(2, 53, 1, 255, 255, 255, 255, 255, 255, 255, 255, 255, 129, 0);
    dueSound(53, 2, 254, 255, 255, 255, 255, 255, 255, 255, 255, 1, 2);
    dueFault(2, 52, 1, 255, 255, 255, 255, 255, 255, 255, 255, 255, 1);
  }

  /** Twelve arrays stand in an item, a 13th one does not. */
  private static void arrayFaults() {
    int[] item = new int[26];
    for (int n = 0; n < 12; n++) {
      item[2 * n] = 28;
      item[2 * n + 1] = 1;
    }
    item[24] = 10;
    item[25] = 11;
    dueSound(item);
    TapePress x = withTape(item);
    due("read() of twelve arrays", x.read(), 0);
    due("far(0, 11)", x.far(0, 11), 11);
    due("far(11, 11)", x.far(11, 11), 1);
    item[25] = 12;
    dueFault(25, item);
    item[24] = 28;
    item[25] = 0;
    dueFault(24, item);
    item[24] = 12;
    dueFault(24, item);
  }

  private static void readAs() {
    TapePress x = withTape(51, 2, 4, 1, 28, 2, 4, 0, 0, 0, 9, 11, 9, 1, 28, 1, 10, 0, 29, 1, 20, 0, 28, 2, 8, 1, 97, 20, 0);
    due("readAs(14)", x.readAs(14), BAD);
    dueWent(x, "readAs(14)", BAD, -1);
    due("readAs(-1)", x.readAs(-1), BAD);
    due("readAs(2)", x.readAs(CHAR), KIND);
    dueWent(x, "readAs(2)", KIND, 0);
    due("count(2)", x.count(2), 0);
    due("readAs(7)", x.readAs(DOUBLE), 0);
    dueWent(x, "readAs(7)", 0, -1);
    due("look(0, 0, 1)", x.look(0, 0, 1), Double.doubleToLongBits(2));
    due("count(2)", x.count(2), 4);
    due("readAs(5)", x.readAs(LONG), KIND);
    dueWent(x, "readAs(5)", KIND, 1);
    due("readAs(8)", x.readAs(INTS), 1);
    due("look(1, 0, 1)", x.look(1, 0, 1), 9);
    due("look(1, 1, 0)", x.look(1, 1, 0), A_NULL);
    due("readAs(12), a bead", x.readAs(ANY), NOROW);
    x.seek(14);
    due("readAs(12), a back link", x.readAs(ANY), NO);
    dueWent(x, "readAs(12)", NO, -1);
    x.seek(18);
    due("readAs(13), an array in rows", x.readAs(ROWS), NO);
    x.seek(22);
    due("NO before KIND", x.readAs(INT), NO);
    x.seek(0);
    while (x.make(BYTE, 0) >= 0) continue;
    due("readAs(3), full", x.readAs(SHORT), FULL);
    dueWent(x, "readAs(3), full", FULL, -1);
    due("KIND before FULL", x.readAs(BYTE), KIND);
    x.poke(1, 13);
    due("FAULT before all but BAD", x.readAs(BYTE), FAULT);
    dueWent(x, "readAs", FAULT, 1);
  }

  private static void skip() {
    TapePress x = withTape(9, 3, 8, 2, 97, 122, 28, 1, 10, 0, 99);
    due("skip()", x.skip(), 2);
    due("skip()", x.skip(), 4);
    due("skip()", x.skip(), 4);
    dueWent(x, "skip()", 0, -1);
    due("count(2)", x.count(2), 10);
    due("skip()", x.skip(), FAULT);
    dueWent(x, "skip()", FAULT, 10);
    due("count(0)", x.count(0), 0);
  }

  private static void relay() {
    TapePress x = withTape(28, 2, 33, 3, 1, 5, 1, 5, 1, 6, 10, 1);
    due("relay(1)", x.relay(1), 10);
    dueWent(x, "relay(1)", 0, -1);
    dueTape(x, 12, 28, 2, 33, 3, 2, 5, 1, 6, 10, 1);
    due("count(2)", x.count(2), 0);
    x.cut(12);
    due("relay(0)", x.relay(0), 9);
    dueTape(x, 12, 28, 2, 17, 3, 5, 5, 6, 10, 1);
    x.cut(12);
    due("relay(2)", x.relay(2), 9);
    dueTape(x, 12, 28, 2, 49, 3, 10, 0, 2, 10, 1);
    due("relay(3)", x.relay(3), BAD);
    dueWent(x, "relay(3)", BAD, -1);
    due("relay(-1)", x.relay(-1), BAD);
    for (int k = x.count(1); k < 191; k++) x.poke(k, 0);
    due("relay(0), 200 bytes", x.relay(0), 9);
    x.cut(192);
    due("relay(0), 201 bytes", x.relay(0), FULL);
    dueWent(x, "relay(0)", FULL, -1);
    due("count(1)", x.count(1), 192);
    due("count(0)", x.count(0), 0);
    TapePress y = full();
    y.poke(0, 9);
    y.poke(1, 2);
    due("relay needs no slot", y.relay(0), 2);
  }

  private static void slack() {
    TapePress x = withTape(27, 2, 9, 3, 11, 99);
    due("slack(-1)", x.slack(-1), BAD);
    due("slack(6)", x.slack(6), BAD);
    // a bead, bytes, chars, shorts, beads, pearls, any, and steps to bytes, shorts, ints and longs
    due("slack(0)", x.slack(0), 11);
    due("slack(1)", x.slack(1), 3);
    due("slack(2)", x.slack(2), 1);
    due("slack(3)", x.slack(3), 3);
    due("slack(4)", x.slack(4), 1);
    due("slack(5), behind the item", x.slack(5), 256);
    due("tape(3)", x.tape(3), 3);
    x.seek(5);
    due("slack(0), before a fault", x.slack(0), 0);
    x.seek(6);
    due("slack(5), at the end", x.slack(5), 0);
    TapePress y = withTape(49, 1, 128, 128);
    due("slack(2) of a step that is not complete", y.slack(2), 128);
    due("slack(3) of a step that is not complete", y.slack(3), 1);
    due("slack(1) of a step that is not complete", y.slack(1), 1);
    TapePress z = withTape(9, 1, 9, 9);
    z.seek(2);
    due("slack(0), before the item", z.slack(0), 0);
    due("slack(3)", z.slack(3), 6);
    due("nothing changes", z.tape(3), 9);
    due("count(2)", z.count(2), 2);
    dueWent(z, "slack", 0, -1);
  }

  private static void find() {
    TapePress x = withTape(99, 33, 2, 2, 5, 17, 2, 5, 5, 9, 4, 8, 3, 99, 97, 98);
    x.make(BYTE, 2);
    x.make(SHORT, 2);
    x.make(BEAD, 4);
    x.make(WORD, Words.code("cab"));
    x.make(BEAD, 3);
    x.set(0, BYTE, 0, 5);
    due("find(0)", x.find(0), NONE);
    x.set(0, BYTE, 1, 5);
    due("find(0), as runs", x.find(0), 1);
    x.poke(1, 34);
    due("find(0), flat", x.find(0), 5);
    due("find(1)", x.find(1), NONE);
    due("find(2)", x.find(2), 9);
    due("find(3)", x.find(3), 11);
    due("find(4)", x.find(4), NONE);
    due("find(5)", x.find(5), NOTHING);
    due("find(12)", x.find(12), BAD);
    due("count(2)", x.count(2), 0);
    TapePress y = withTape(28, 1, 28, 1, 10, 1);
    y.make(ANY, 1);
    y.put(0, 0, AN_ARRAY, 0);
    due("find a circle", y.find(0), NONE);
    y.poke(5, 0);
    due("find a circle, which is not the item's inner one", y.find(0), 2);
  }

  private static void laid() {
    TapePress x = mixed();
    due("laid(0, 0)", x.laid(0, 0), 14);
    due("laid(0, 1)", x.laid(0, 1), 7);
    due("laid(0, 2)", x.laid(0, 2), 5);
    due("laid(2, 1)", x.laid(2, 1), 2);
    due("laid(3, 2)", x.laid(3, 2), 5);
    due("laid(4, 0)", x.laid(4, 0), NOTHING);
    due("laid(4, 3)", x.laid(4, 3), BAD);
    due("laid(0, -1)", x.laid(0, -1), BAD);
    due("laid(12, 0)", x.laid(12, 0), BAD);
    due("count(1)", x.count(1), 0);
    TapePress y = new TapePress();
    for (int t = 0; t < 12; t++) {
      y.make(ANY, 12);
      for (int k = 0; k < 12; k++) y.put(t, k, DOUBLE, 1);
      if (t > 0) y.put(t - 1, 11, AN_ARRAY, t);
    }
    due("laid of more than 200 bytes", y.laid(0, 0), 11 * (2 + 11 * 10) + 2 + 12 * 10);
    due("lay of more than 200 bytes", y.lay(0), FULL);
    due("part of more than 200 bytes", y.part(0, 0), NONE);
    due("part of more than 200 bytes", y.part(0, 1), 11 * (2 + 11 * 10));
  }

  private static void part() {
    TapePress x = mixed();
    x.make(INT, 3);
    due("part(0, 4)", x.part(0, 4), NONE);
    x.set(4, INT, 1, 1);
    due("part(0, 4)", x.part(0, 4), 9);
    due("part(4, 0)", x.part(4, 0), 9);
    due("part(0, 0)", x.part(0, 0), NONE);
    due("part(0, 2)", x.part(0, 2), 0);
    x.make(ANY, 3);
    due("part(1, 5)", x.part(1, 5), 1);
    due("part(12, 9)", x.part(12, 9), BAD);
    due("part(9, -1)", x.part(9, -1), BAD);
    due("part(9, 0)", x.part(9, 0), NOTHING);
    due("part(0, 9)", x.part(0, 9), NOTHING);
    // An array that holds itself, and one that holds its like, are written differently.
    x.make(ANY, 1);
    x.make(ANY, 1);
    x.put(6, 0, AN_ARRAY, 6);
    x.put(7, 0, AN_ARRAY, 6);
    due("part(6, 7)", x.part(6, 7), 2);
  }

  // ---- what hangs on what

  /** 0 holds 1 and 2, 2 holds 3, 3 holds 0; 4 holds 4 and 3; 5 is an int array, and 6 a word. */
  private static TapePress linked() {
    TapePress x = new TapePress();
    for (int t = 0; t < 5; t++) x.make(ANY, 3);
    x.make(INT, 1);
    x.make(WORD, 1);
    x.put(0, 0, AN_ARRAY, 1);
    x.put(0, 2, AN_ARRAY, 2);
    x.put(2, 1, AN_ARRAY, 3);
    x.put(3, 0, AN_ARRAY, 0);
    x.put(4, 0, AN_ARRAY, 4);
    x.put(4, 1, AN_ARRAY, 3);
    return x;
  }

  private static void hangs() {
    TapePress x = linked();
    int[] sets = {15, 2, 15, 15, 31, 32, 64};
    for (int t = 0; t < 7; t++) due("hangs(" + t + ")", x.hangs(t), sets[t]);
    due("hangs(7)", x.hangs(7), NOTHING);
    due("hangs(12)", x.hangs(12), BAD);
    due("hangs(-1)", x.hangs(-1), BAD);
  }

  private static void far() {
    TapePress x = linked();
    due("far(0, 1)", x.far(0, 1), 1);
    due("far(0, 0)", x.far(0, 0), 3);
    due("far(2, 1)", x.far(2, 1), 3);
    due("far(4, 1)", x.far(4, 1), 3);
    due("far(4, 2)", x.far(4, 2), 3);
    due("far(4, 4)", x.far(4, 4), 1);
    due("far(0, 4)", x.far(0, 4), NONE);
    due("far(1, 1)", x.far(1, 1), NONE);
    due("far(5, 5)", x.far(5, 5), NONE);
    due("far(6, 6)", x.far(6, 6), NONE);
    due("far(0, 7)", x.far(0, 7), NOTHING);
    due("far(7, 0)", x.far(7, 0), NOTHING);
    due("far(7, 12)", x.far(7, 12), BAD);
    due("far(-1, 7)", x.far(-1, 7), BAD);
    TapePress y = new TapePress();
    for (int t = 0; t < 12; t++) y.make(ANY, 1);
    for (int t = 0; t < 12; t++) y.put(t, 0, AN_ARRAY, (t + 1) % 12);
    due("far(0, 0) round a circle of twelve", y.far(0, 0), 12);
    due("hangs(5) round a circle of twelve", y.hangs(5), 4095);
  }

  private static void twin() {
    TapePress x = linked();
    due("twin(2)", x.twin(2), 7);
    // 2, 3, 0 and 1 in the order in which they are written
    due("look(7, 1, 1)", x.look(7, 1, 1), 8);
    due("look(8, 0, 1)", x.look(8, 0, 1), 9);
    due("look(9, 0, 1)", x.look(9, 0, 1), 10);
    due("look(9, 2, 1)", x.look(9, 2, 1), 7);
    due("hangs(7)", x.hangs(7), 1920);
    due("part(2, 7)", x.part(2, 7), NONE);
    due("twin(0), one slot is too few", x.twin(0), FULL);
    due("count(0)", x.count(0), 11);
    due("twin(6)", x.twin(6), 11);
    due("kind(11)", x.kind(11), WORD);
    due("twin(6), full", x.twin(6), FULL);
    due("twin(12)", x.twin(12), BAD);
    due("twin(4) of nothing", mixed().twin(4), NOTHING);
    due("twin of a bead", mixed().twin(2), 4);
    TapePress y = new TapePress();
    for (int t = 0; t < 6; t++) {
      y.make(ANY, 12);
      for (int k = 0; k < 12; k++) y.put(t, k, DOUBLE, 8 * t + k - 20);
      if (t > 0) y.put(t - 1, 11, AN_ARRAY, t);
    }
    due("twin of more than 200 bytes", y.twin(0), 6);
    due("part(0, 6)", y.part(0, 6), NONE);
    due("look(11, 3, 1)", y.look(11, 3, 1), Double.doubleToLongBits(23 * 0.125));
    due("count(1)", y.count(1), 0);
  }

  // ---- names

  private static final String[] NAMES = {
    "boolean", "byte", "char", "short", "int", "long", "float", "double",
    "ints", "words", "beads", "pearls", "any", "rows", "bead", "word",
  };

  private static void called() {
    for (int kind = 0; kind <= 15; kind++) {
      TapePress x = new TapePress();
      x.make(kind, 1);
      due("called, kind " + kind, x.called(0), Words.code(NAMES[kind]));
      due("called(1)", x.called(1), 0);
      due("called(-1)", x.called(-1), 0);
      due("called(12)", x.called(12), 0);
    }
  }

  private static void named() {
    TapePress x = new TapePress();
    for (int kind = 0; kind <= 15; kind++) due("named " + NAMES[kind], x.named(Words.code(NAMES[kind])), kind);
    due("named a", x.named(1), NONE);
    due("named zzzzzzz", x.named(10460353202L), NONE);
    due("named boolea", x.named(Words.code("boolea")), NONE);
    for (long bad : new long[] {0, -1, 27, 756, 10460353203L, Long.MIN_VALUE, Long.MAX_VALUE}) {
      due("named(" + bad + ")", x.named(bad), BAD);
    }
  }

  private static void count() {
    TapePress x = mixed();
    x.lay(3);
    x.seek(2);
    x.mode(2);
    int[] first = {4, 5, 2, 2};
    for (int what = 0; what < 4; what++) due("count(" + what + ")", x.count(what), first[what]);
    x.get(9, 0, 0);
    x.set(9, 0, 0, 0);
    x.put(9, 0, 0, 0);
    x.look(9, 0, 0);
    x.get(2, 0, 0);
    x.look(3, 0, 0);
    x.put(3, 0, 0, 0);
    x.get(1, 0, 0);
    x.set(1, 0, 0, 0);
    x.get(0, 0, 3);
    x.get(0, 0, 0);
    x.put(0, 0, 5, 0);
    x.put(12, 0, 5, 0);
    x.sum(9, 4);
    x.swap(0, 0, 9);
    x.carry(0, 9, 0, 9, 1);
    x.convert(0, 0);
    int[] errors = {4, 3, 2, 1, 2};
    for (int what = 4; what <= 8; what++) due("count(" + what + ")", x.count(what), errors[what - 4]);
    due("count(9)", x.count(9), BAD);
    due("count(-1)", x.count(-1), BAD);
  }

  private static final Runnable[] PROMISES = {
    PromiseTest::newObject, PromiseTest::make, PromiseTest::kind, PromiseTest::size, PromiseTest::drop,
    PromiseTest::gather, PromiseTest::copyOf, PromiseTest::get, PromiseTest::set, PromiseTest::usable,
    PromiseTest::look, PromiseTest::put, PromiseTest::swap, PromiseTest::went, PromiseTest::carry,
    PromiseTest::convert, PromiseTest::shape, PromiseTest::sum, PromiseTest::mode, PromiseTest::lay,
    PromiseTest::tape, PromiseTest::poke, PromiseTest::cut, PromiseTest::seek, PromiseTest::read,
    PromiseTest::readAs, PromiseTest::skip, PromiseTest::relay, PromiseTest::slack, PromiseTest::find,
    PromiseTest::laid, PromiseTest::part, PromiseTest::hangs, PromiseTest::far, PromiseTest::twin,
    PromiseTest::called, PromiseTest::named, PromiseTest::count,
  };

  public static void main(String[] args) {
    for (int k = 0; k < PROMISES.length; k++) {
      DUES.promise("promise " + (k + 1));
      PROMISES[k].run();
    }
    DUES.promise("the longest arrays");
    longestRows();
    DUES.promise("the tape");
    faults();
    DUES.end();
  }
}
