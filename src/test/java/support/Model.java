import java.lang.reflect.Array;
import java.math.BigDecimal;
import java.math.BigInteger;
import java.nio.ByteBuffer;
import java.util.ArrayDeque;
import java.util.ArrayList;
import java.util.Arrays;
import java.util.IdentityHashMap;
import java.util.List;

/**
 * What the document says, told a second time with the Java library: real arrays, whose elements
 * java.lang.reflect.Array sets and widens, and big numbers for the tape. It shares no code with TapePress.
 */
public final class Model {
  static final int BAD = -1, NO = -2, FULL = -3, NONE = -4, NOTHING = -5, NOROW = -6, OPEN = -7, PLACE = -8, KIND = -9, FAULT = -10;

  private static class Bead {
    final int number;

    Bead(int number) {
      this.number = number;
    }
  }

  private static final class Pearl extends Bead {
    Pearl(int number) {
      super(number);
    }
  }

  private static final class Stop extends RuntimeException {
    private static final long serialVersionUID = 1;
    final int code;
    final int spot;

    Stop(int code, int spot) {
      super(null, null, false, false);
      this.code = code;
      this.spot = spot;
    }
  }

  private interface Call {
    long answer();
  }

  private static final Bead[] BEADS = {new Bead(0), new Bead(1), new Bead(2), new Pearl(3), new Pearl(4), new Pearl(5)};
  private static final Class<?>[] TYPES = {
    boolean.class, byte.class, char.class, short.class, int.class, long.class, float.class, double.class,
    Integer.class, String.class, Bead.class, Pearl.class, Object.class, int[].class,
  };
  private static final List<Class<?>> BOXES = List.of(
      Boolean.class, Byte.class, Character.class, Short.class, Integer.class, Long.class, Float.class, Double.class);
  static final List<String> NAMES = List.of(
      "boolean", "byte", "char", "short", "int", "long", "float", "double",
      "ints", "words", "beads", "pearls", "any", "rows", "bead", "word");

  private final Object[] slots = new Object[12];
  private final List<Integer> tape = new ArrayList<>();
  private int position = 0;
  private int mode = 0;
  private int result = 0;
  private int spot = -1;
  private final int[] errors = new int[5];

  // ---- calls

  private static long plain(Call call) {
    try {
      return call.answer();
    } catch (Stop stop) {
      return stop.code;
    }
  }

  private long told(Call call) {
    try {
      long answer = call.answer();
      result = 0;
      spot = -1;
      return answer;
    } catch (Stop stop) {
      result = stop.code;
      spot = stop.spot;
      return stop.code;
    }
  }

  private long zeroIfError(Call call) {
    long answer = told(call);
    return result == 0 ? answer : 0;
  }

  private Call counted(Call call) {
    return () -> {
      try {
        return call.answer();
      } catch (Stop stop) {
        if (stop.code <= NOTHING && stop.code >= KIND) errors[-5 - stop.code]++;
        throw stop;
      }
    };
  }

  private static void require(boolean holds, int code) {
    if (!holds) throw new Stop(code, -1);
  }

  private static void require(boolean holds, int code, int spot) {
    if (!holds) throw new Stop(code, spot);
  }

  private static boolean isSlot(long t) {
    return t >= 0 && t < 12;
  }

  private static boolean isRow(Object contents) {
    return contents != null && contents.getClass().isArray();
  }

  private static boolean isPrimitiveRow(Object contents) {
    return isRow(contents) && contents.getClass().getComponentType().isPrimitive();
  }

  private Object filled(int t) {
    require(isSlot(t), BAD);
    require(slots[t] != null, NOTHING);
    return slots[t];
  }

  private Object row(int t) {
    Object contents = filled(t);
    require(isRow(contents), NOROW);
    return contents;
  }

  private static void requirePlace(Object row, int place) {
    require(place >= 0 && place < Array.getLength(row), PLACE);
  }

  private int keep(Object contents) {
    for (int t = 0; t < 12; t++) {
      if (slots[t] == null) {
        slots[t] = contents;
        return t;
      }
    }
    throw new Stop(FULL, -1);
  }

  private int filledSlots() {
    int n = 0;
    for (Object contents : slots) if (contents != null) n++;
    return n;
  }

  private int slotOf(Object row) {
    for (int t = 0; t < 12; t++) if (slots[t] == row) return t;
    throw new IllegalStateException("an array that is in no slot");
  }

  private static int kindOf(Object contents) {
    if (contents instanceof Bead) return 14;
    if (contents instanceof String) return 15;
    return Arrays.asList(TYPES).indexOf(contents.getClass().getComponentType());
  }

  // ---- values

  static String word(long code) {
    StringBuilder letters = new StringBuilder();
    for (long rest = code; rest > 0; rest /= 27) letters.append((char) ('a' - 1 + rest % 27));
    return letters.reverse().toString();
  }

  static boolean isWord(long code) {
    return code > 0 && word(code).matches("[a-z]{1,7}");
  }

  private static boolean fits(int kind, long v) {
    switch (kind) {
      case 0: return v == 0 || v == 1;
      case 1: return (byte) v == v;
      case 2: return (char) v == v;
      case 3: return (short) v == v;
      case 4: return (int) v == v;
      default: return true;
    }
  }

  private static Object boxed(int kind, long v) {
    switch (kind) {
      case 0: return v == 1;
      case 1: return (byte) v;
      case 2: return (char) v;
      case 3: return (short) v;
      case 4: return (int) v;
      case 5: return v;
      case 6: return (float) v * 0.125f;
      default: return (double) v * 0.125;
    }
  }

  private static long number(Object box) {
    if (box instanceof Boolean) return (Boolean) box ? 1 : 0;
    if (box instanceof Character) return (Character) box;
    if (box instanceof Float) return Float.floatToIntBits((Float) box);
    if (box instanceof Double) return Double.doubleToLongBits((Double) box);
    return ((Number) box).longValue();
  }

  /** What an array of this element type holds after it has been given a value; KIND if it does not accept it. */
  private static Object accepted(Class<?> type, Object value) {
    require(value != null || !type.isPrimitive(), KIND);
    Object one = Array.newInstance(type, 1);
    try {
      Array.set(one, 0, value);
    } catch (IllegalArgumentException e) {
      throw new Stop(KIND, -1);
    }
    return Array.get(one, 0);
  }

  private static Object acceptedBy(Object row, Object value) {
    return accepted(row.getClass().getComponentType(), value);
  }

  private Object value(int what, long v) {
    require(what >= 0 && what <= 11, BAD);
    if (what <= 7) {
      require(fits(what, v), BAD);
      return boxed(what, v);
    }
    if (what == 8) {
      require(isWord(v), BAD);
      return word(v);
    }
    if (what == 9) {
      require(v >= 0 && v < 6, BAD);
      return BEADS[(int) v];
    }
    if (what == 10) {
      require(isSlot(v) && isRow(slots[(int) v]), BAD);
      return slots[(int) v];
    }
    require(v == 0, BAD);
    return null;
  }

  private static Object convertedRow(Object row, int kind) {
    int n = Array.getLength(row);
    Object made = Array.newInstance(TYPES[kind], n);
    for (int k = 0; k < n; k++) {
      try {
        Array.set(made, k, acceptedBy(made, Array.get(row, k)));
      } catch (Stop stop) {
        throw new Stop(KIND, k);
      }
    }
    return made;
  }

  // ---- the face: things

  public int make(int kind, long v) {
    return (int) plain(() -> {
      require(kind >= 0 && kind <= 15, BAD);
      if (kind == 15) require(isWord(v), BAD);
      else require(v >= 0 && v <= (kind == 14 ? 5 : 12), BAD);
      if (kind == 15) return keep(word(v));
      if (kind == 14) return keep(BEADS[(int) v]);
      return keep(Array.newInstance(TYPES[kind], (int) v));
    });
  }

  public int kind(int t) {
    return (int) plain(() -> kindOf(filled(t)));
  }

  public int size(int t) {
    return (int) plain(() -> Array.getLength(row(t)));
  }

  public int drop(int t) {
    return (int) plain(() -> {
      Object contents = filled(t);
      for (int u = 0; u < 12; u++) {
        if (u != t && isRow(contents)) require(!rowsIn(slots[u]).contains(t), NO);
      }
      slots[t] = null;
      return filledSlots();
    });
  }

  public int gather(int t) {
    return (int) plain(() -> {
      filled(t);
      List<Integer> kept = hanging(t);
      int before = filledSlots();
      for (int u = 0; u < 12; u++) if (!kept.contains(u)) slots[u] = null;
      return before - filledSlots();
    });
  }

  public int copyOf(int t) {
    return (int) plain(() -> keep(convertedRow(row(t), kindOf(row(t)))));
  }

  // ---- the face: numbers by kind

  public long get(int t, int kind, int place) {
    return zeroIfError(counted(() -> {
      require(isSlot(t) && kind >= 0 && kind <= 7, BAD);
      Object row = row(t);
      require(isPrimitiveRow(row), OPEN);
      requirePlace(row, place);
      return number(accepted(TYPES[kind], Array.get(row, place)));
    }));
  }

  public int set(int t, int kind, int place, long v) {
    return (int) plain(counted(() -> {
      require(isSlot(t) && kind >= 0 && kind <= 7 && fits(kind, v), BAD);
      Object row = row(t);
      require(isPrimitiveRow(row), OPEN);
      requirePlace(row, place);
      Array.set(row, place, acceptedBy(row, boxed(kind, v)));
      return 0;
    }));
  }

  public int usable(int t, int place, int what) {
    return (int) plain(() -> {
      require(isSlot(t) && (what == 0 || what == 1), BAD);
      Object row = row(t);
      requirePlace(row, place);
      if (!isPrimitiveRow(row)) return 0;
      int kinds = 0;
      for (int kind = 0; kind < 8; kind++) {
        try {
          if (what == 0) accepted(TYPES[kind], Array.get(row, place));
          else acceptedBy(row, boxed(kind, 0));
          kinds += 1 << kind;
        } catch (Stop stop) {
          continue;
        }
      }
      return kinds;
    });
  }

  // ---- the face: what stands in cells

  public long look(int t, int place, int what) {
    return zeroIfError(counted(() -> {
      require(isSlot(t) && (what == 0 || what == 1), BAD);
      Object row = row(t);
      requirePlace(row, place);
      Object value = Array.get(row, place);
      if (value == null) return what == 0 ? 11 : 0;
      if (value instanceof String) return what == 0 ? 8 : Words.code((String) value);
      if (value instanceof Bead) return what == 0 ? 9 : ((Bead) value).number;
      if (isRow(value)) return what == 0 ? 10 : slotOf(value);
      return what == 0 ? BOXES.indexOf(value.getClass()) : number(value);
    }));
  }

  public int put(int t, int place, int what, long v) {
    return (int) plain(counted(() -> {
      require(isSlot(t), BAD);
      Object value = value(what, v);
      Object row = row(t);
      requirePlace(row, place);
      Array.set(row, place, acceptedBy(row, value));
      return 0;
    }));
  }

  public int swap(int t, int i, int j) {
    return (int) plain(() -> {
      Object row = row(t);
      requirePlace(row, i);
      requirePlace(row, j);
      Object value = Array.get(row, i);
      Array.set(row, i, Array.get(row, j));
      Array.set(row, j, value);
      return 0;
    });
  }

  public int went(int what) {
    return what == 0 ? result : what == 1 ? spot : BAD;
  }

  // ---- the face: whole rows

  public int carry(int t, int from, int u, int to, int n) {
    int[] copied = {-1};
    int answer = (int) told(() -> {
      require(isSlot(t) && isSlot(u) && n >= 0 && n <= 12, BAD);
      require(slots[t] != null && slots[u] != null, NOTHING);
      require(isRow(slots[t]) && isRow(slots[u]), NOROW);
      for (copied[0] = 0; copied[0] < n; copied[0]++) {
        long i = (long) from + copied[0];
        long j = (long) to + copied[0];
        require(i >= 0 && i < Array.getLength(slots[t]), PLACE, copied[0]);
        require(j >= 0 && j < Array.getLength(slots[u]), PLACE, copied[0]);
        Object value;
        try {
          value = acceptedBy(slots[u], Array.get(slots[t], (int) i));
        } catch (Stop stop) {
          throw new Stop(KIND, copied[0]);
        }
        Array.set(slots[u], (int) j, value);
      }
      return n;
    });
    return copied[0] >= 0 ? copied[0] : answer;
  }

  public int convert(int t, int kind) {
    return (int) told(() -> {
      require(isSlot(t) && kind >= 0 && kind <= 13, BAD);
      return keep(convertedRow(row(t), kind));
    });
  }

  public int shape(int s, int t) {
    return (int) told(() -> {
      require(isSlot(s) && isSlot(t), BAD);
      require(slots[s] != null && slots[t] != null, NOTHING);
      require(isRow(slots[s]) && isRow(slots[t]), NOROW);
      require(slots[s] instanceof String[], NO);
      require(isPrimitiveRow(slots[t]), OPEN);
      String[] schema = (String[]) slots[s];
      Object[] made = new Object[Math.min(schema.length, Array.getLength(slots[t]))];
      for (int k = 0; k < made.length; k++) {
        int kind = schema[k] == null ? -1 : NAMES.indexOf(schema[k]);
        require(kind >= 0 && kind <= 7, KIND, k);
        try {
          made[k] = accepted(TYPES[kind], Array.get(slots[t], k));
        } catch (Stop stop) {
          throw new Stop(KIND, k);
        }
      }
      return keep(made);
    });
  }

  public long sum(int t, int kind) {
    return zeroIfError(() -> {
      require(isSlot(t) && kind >= 4 && kind <= 7, BAD);
      Object row = row(t);
      require(isPrimitiveRow(row), OPEN);
      int n = Array.getLength(row);
      if (n == 0) return 0;
      Object wide = convertedRow(row, kind);
      int ints = 0;
      long longs = 0;
      float floats = 0;
      double doubles = 0;
      for (int k = 0; k < n; k++) {
        if (kind == 4) ints += Array.getInt(wide, k);
        if (kind == 5) longs += Array.getLong(wide, k);
        if (kind == 6) floats += Array.getFloat(wide, k);
        if (kind == 7) doubles += Array.getDouble(wide, k);
      }
      return kind == 4 ? ints : kind == 5 ? longs : kind == 6 ? number(floats) : number(doubles);
    });
  }

  // ---- the face: the tape

  public int mode(int m) {
    return (int) plain(() -> {
      require(m >= 0 && m <= 2, BAD);
      int old = mode;
      mode = m;
      return old;
    });
  }

  private int append(List<Integer> bytes) {
    require(tape.size() + bytes.size() <= 200, FULL);
    tape.addAll(bytes);
    return bytes.size();
  }

  public int lay(int t) {
    return (int) plain(() -> append(new Out(mode).item(filled(t))));
  }

  public int tape(int i) {
    return i >= 0 && i < tape.size() ? tape.get(i) : BAD;
  }

  public int poke(int i, int b) {
    return (int) plain(() -> {
      require(i >= 0 && i <= tape.size() && b >= 0 && b <= 255, BAD);
      require(i != 200, FULL);
      if (i < tape.size()) return tape.set(i, b);
      tape.add(b);
      return NONE;
    });
  }

  public int cut(int n) {
    return (int) plain(() -> {
      require(n >= 0 && n <= tape.size(), BAD);
      int removed = 0;
      while (tape.size() > n) {
        tape.remove(tape.size() - 1);
        removed++;
      }
      if (position > n) position = n;
      return removed;
    });
  }

  public int seek(int p) {
    return (int) plain(() -> {
      require(p >= 0 && p <= tape.size(), BAD);
      int old = position;
      position = p;
      return old;
    });
  }

  public int read() {
    return (int) told(() -> {
      In in = new In(tape, position);
      Object first = in.item();
      int slot = keepAll(first, in.rows);
      position = in.p;
      return slot;
    });
  }

  private int keepAll(Object first, List<Object> rows) {
    List<Object> all = rows.isEmpty() ? List.of(first) : rows;
    require(12 - filledSlots() >= all.size(), FULL);
    int slot = keep(all.get(0));
    for (Object row : all.subList(1, all.size())) keep(row);
    return slot;
  }

  public int readAs(int kind) {
    return (int) told(() -> {
      require(kind >= 0 && kind <= 13, BAD);
      In in = new In(tape, position);
      Object first = in.item();
      require(isRow(first), NOROW);
      for (int k = 0; k < Array.getLength(first); k++) require(!isRow(Array.get(first, k)), NO);
      int slot = keep(convertedRow(first, kind));
      position = in.p;
      return slot;
    });
  }

  public int skip() {
    return (int) told(() -> {
      In in = new In(tape, position);
      in.item();
      int bytes = in.p - position;
      position = in.p;
      return bytes;
    });
  }

  public int relay(int m) {
    return (int) told(() -> {
      require(m >= 0 && m <= 2, BAD);
      return append(new Out(m).item(new In(tape, position).item()));
    });
  }

  public int slack(int i) {
    return (int) plain(() -> {
      require(i >= 0 && i < tape.size(), BAD);
      int good = 0;
      for (int b = 0; b < 256; b++) {
        List<Integer> other = new ArrayList<>(tape);
        other.set(i, b);
        if (soundItem(other, position) != null) good++;
      }
      return good;
    });
  }

  private static Object soundItem(List<Integer> bytes, int from) {
    try {
      return new In(bytes, from).item();
    } catch (Stop fault) {
      return null;
    }
  }

  public int find(int t) {
    return (int) plain(() -> {
      List<Integer> wanted = new Out(0).item(filled(t));
      for (int p = 0; p < tape.size(); p++) {
        Object item = soundItem(tape, p);
        if (item != null && new Out(0).item(item).equals(wanted)) return p;
      }
      return NONE;
    });
  }

  public int laid(int t, int m) {
    return (int) plain(() -> {
      require(isSlot(t) && m >= 0 && m <= 2, BAD);
      return new Out(m).item(filled(t)).size();
    });
  }

  public int part(int t, int u) {
    return (int) plain(() -> {
      require(isSlot(t) && isSlot(u), BAD);
      List<Integer> one = new Out(0).item(filled(t));
      List<Integer> other = new Out(0).item(filled(u));
      if (one.equals(other)) return NONE;
      int i = 0;
      while (i < one.size() && i < other.size() && one.get(i).equals(other.get(i))) i++;
      return i;
    });
  }

  // ---- the face: what hangs on what

  private List<Integer> rowsIn(Object contents) {
    List<Integer> found = new ArrayList<>();
    if (!(contents instanceof Object[])) return found;
    for (Object value : (Object[]) contents) if (isRow(value)) found.add(slotOf(value));
    return found;
  }

  private List<Integer> hanging(int t) {
    List<Integer> found = new ArrayList<>(List.of(t));
    for (int k = 0; k < found.size(); k++) {
      for (int u : rowsIn(slots[found.get(k)])) if (!found.contains(u)) found.add(u);
    }
    return found;
  }

  public int hangs(int t) {
    return (int) plain(() -> {
      filled(t);
      int set = 0;
      for (int u : hanging(t)) set += 1 << u;
      return set;
    });
  }

  public int far(int t, int u) {
    return (int) plain(() -> {
      require(isSlot(t) && isSlot(u), BAD);
      filled(t);
      filled(u);
      int[] links = new int[12];
      ArrayDeque<Integer> next = new ArrayDeque<>(List.of(t));
      boolean start = true;
      while (!next.isEmpty()) {
        int from = next.remove();
        int done = start ? 0 : links[from];
        start = false;
        for (int to : rowsIn(slots[from])) {
          if (links[to] != 0) continue;
          links[to] = done + 1;
          next.add(to);
        }
      }
      return links[u] == 0 ? NONE : links[u];
    });
  }

  public int twin(int t) {
    return (int) plain(() -> {
      Object first = filled(t);
      if (!isRow(first)) return keep(first);
      List<Object> copies = new ArrayList<>();
      Object copy = deepCopy(first, new IdentityHashMap<>(), copies);
      return keepAll(copy, copies);
    });
  }

  private static Object deepCopy(Object row, IdentityHashMap<Object, Object> known, List<Object> copies) {
    if (known.containsKey(row)) return known.get(row);
    int n = Array.getLength(row);
    Object copy = Array.newInstance(row.getClass().getComponentType(), n);
    known.put(row, copy);
    copies.add(copy);
    for (int k = 0; k < n; k++) {
      Object value = Array.get(row, k);
      Array.set(copy, k, isRow(value) ? deepCopy(value, known, copies) : value);
    }
    return copy;
  }

  // ---- the face: names

  public long called(int t) {
    return !isSlot(t) || slots[t] == null ? 0 : Words.code(NAMES.get(kindOf(slots[t])));
  }

  public int named(long w) {
    if (!isWord(w)) return BAD;
    int kind = NAMES.indexOf(word(w));
    return kind < 0 ? NONE : kind;
  }

  public int count(int what) {
    if (what < 0 || what > 8) return BAD;
    int[] first = {filledSlots(), tape.size(), position, mode};
    return what < 4 ? first[what] : errors[what - 4];
  }

  // ---- writing

  private static final class Out {
    private final List<Integer> bytes = new ArrayList<>();
    private final List<Object> rows = new ArrayList<>();
    private final int mode;

    Out(int mode) {
      this.mode = mode;
    }

    List<Integer> item(Object contents) {
      value(contents);
      return bytes;
    }

    private void value(Object value) {
      if (value == null) {
        bytes.add(11);
      } else if (value instanceof String) {
        bytes.add(8);
        bytes.add(((String) value).length());
        for (char letter : ((String) value).toCharArray()) bytes.add((int) letter);
      } else if (value instanceof Bead) {
        bytes.addAll(List.of(9, ((Bead) value).number));
      } else if (isRow(value)) {
        row(value);
      } else {
        bytes.add(BOXES.indexOf(value.getClass()));
        number(value);
      }
    }

    private void row(Object row) {
      for (int n = 0; n < rows.size(); n++) {
        if (rows.get(n) == row) {
          bytes.addAll(List.of(10, n));
          return;
        }
      }
      rows.add(row);
      int kind = kindOf(row);
      boolean runs = mode == 1 && kind <= 7;
      boolean steps = mode == 2 && kind >= 1 && kind <= 5;
      bytes.add((runs ? 32 : steps ? 48 : 16) + kind);
      int n = Array.getLength(row);
      bytes.add(n);
      if (runs) {
        runs(row, n);
      } else if (steps) {
        BigInteger before = BigInteger.ZERO;
        for (int k = 0; k < n; k++) {
          BigInteger now = BigInteger.valueOf(Model.number(Array.get(row, k)));
          step(now.subtract(before).longValue());
          before = now;
        }
      } else {
        for (int k = 0; k < n; k++) {
          if (kind <= 7) number(Array.get(row, k));
          else value(Array.get(row, k));
        }
      }
    }

    private void runs(Object row, int n) {
      int k = 0;
      while (k < n) {
        int end = k + 1;
        while (end < n && Array.get(row, end).equals(Array.get(row, k))) end++;
        bytes.add(end - k);
        number(Array.get(row, k));
        k = end;
      }
    }

    private void step(long step) {
      BigInteger twice = BigInteger.valueOf(step).shiftLeft(1);
      BigInteger rest = step >= 0 ? twice : twice.negate().subtract(BigInteger.ONE);
      do {
        int group = rest.intValue() & 127;
        rest = rest.shiftRight(7);
        bytes.add(rest.signum() == 0 ? group : group + 128);
      } while (rest.signum() != 0);
    }

    private void number(Object box) {
      if (box instanceof Boolean) {
        bytes.add((Boolean) box ? 1 : 0);
        return;
      }
      ByteBuffer out = ByteBuffer.allocate(16);
      if (box instanceof Byte) out.put((Byte) box);
      if (box instanceof Character) out.putChar((Character) box);
      if (box instanceof Short) out.putShort((Short) box);
      if (box instanceof Integer) out.putInt((Integer) box);
      if (box instanceof Long) out.putLong((Long) box);
      if (box instanceof Float || box instanceof Double) {
        BigInteger eighths = new BigDecimal(((Number) box).doubleValue()).multiply(BigDecimal.valueOf(8)).toBigIntegerExact();
        int e = eighths.signum() == 0 ? 0 : eighths.getLowestSetBit();
        out.put((byte) e);
        if (box instanceof Float) out.putInt(eighths.shiftRight(e).intValueExact());
        else out.putLong(eighths.shiftRight(e).longValueExact());
      }
      for (int k = 0; k < out.position(); k++) bytes.add(out.get(k) & 255);
    }
  }

  // ---- reading

  private static final class In {
    private static final int[] BYTES = {1, 1, 2, 2, 4, 8, 5, 9};
    private final List<Integer> bytes;
    final List<Object> rows = new ArrayList<>();
    int p;

    In(List<Integer> bytes, int from) {
      this.bytes = bytes;
      p = from;
    }

    private static Stop fault(int place) {
      return new Stop(FAULT, place);
    }

    /** The next part, if it has one byte and this is in the range. */
    private int part(int least, int greatest) {
      if (p >= bytes.size() || bytes.get(p) < least || bytes.get(p) > greatest) throw fault(p);
      return bytes.get(p++);
    }

    private static boolean isRowTag(int tag) {
      return tag >= 16 && tag < 30 || tag >= 32 && tag < 40 || tag >= 49 && tag < 54;
    }

    Object item() {
      int start = p;
      int tag = part(0, 255);
      if (tag == 8) return letters();
      if (tag == 9) return BEADS[part(0, 5)];
      if (!isRowTag(tag)) throw fault(start);
      return row(tag, start);
    }

    private String letters() {
      StringBuilder word = new StringBuilder();
      for (int n = part(1, 7); n > 0; n--) word.append((char) part('a', 'z'));
      return word.toString();
    }

    private Object row(int tag, int start) {
      if (rows.size() == 12) throw fault(start);
      int kind = tag % 16;
      // The length is not known yet, but the array counts already as one whose tag has been read.
      int n = part(0, 12);
      Object row = Array.newInstance(TYPES[kind], n);
      rows.add(row);
      if (kind >= 8) {
        for (int k = 0; k < n; k++) Array.set(row, k, element(kind));
      } else if (tag < 32) {
        for (int k = 0; k < n; k++) Array.set(row, k, number(kind));
      } else if (tag < 48) {
        int k = 0;
        while (k < n) {
          int run = part(1, n - k);
          Object box = number(kind);
          for (int j = 0; j < run; j++) Array.set(row, k++, box);
        }
      } else {
        BigInteger before = BigInteger.ZERO;
        for (int k = 0; k < n; k++) {
          int place = p;
          long number = before.add(step()).longValue();
          if (!fits(kind, number)) throw fault(place);
          Array.set(row, k, boxed(kind, number));
          before = BigInteger.valueOf(number);
        }
      }
      return row;
    }

    private Object element(int kind) {
      int start = p;
      int tag = part(0, 255);
      if (tag == 11) return null;
      boolean any = kind == 12;
      if (tag <= 7 && (any || kind == 8 && tag == 4)) return number(tag);
      if (tag == 8 && (any || kind == 9)) return letters();
      if (tag == 9 && (any || kind == 10)) return BEADS[part(0, 5)];
      if (tag == 9 && kind == 11) return BEADS[part(3, 5)];
      if (isRowTag(tag) && (any || kind == 13 && tag % 16 == 4)) return row(tag, start);
      if (tag == 10 && (any || kind == 13)) {
        Object linked = rows.get(part(0, rows.size() - 1));
        if (kind == 13 && !(linked instanceof int[])) throw fault(p - 1);
        return linked;
      }
      throw fault(start);
    }

    private Object number(int kind) {
      int place = p;
      if (place + BYTES[kind] > bytes.size()) throw fault(place);
      byte[] raw = new byte[BYTES[kind]];
      for (int k = 0; k < raw.length; k++) raw[k] = (byte) (int) bytes.get(p++);
      if (kind >= 6) return scaled(kind, raw, place);
      BigInteger whole = kind == 2 ? new BigInteger(1, raw) : new BigInteger(raw);
      if (!fits(kind, whole.longValueExact())) throw fault(place);
      return boxed(kind, whole.longValueExact());
    }

    private static Object scaled(int kind, byte[] raw, int place) {
      int e = raw[0] & 255;
      BigInteger m = new BigInteger(Arrays.copyOfRange(raw, 1, raw.length));
      boolean zero = m.signum() == 0;
      if (e > 66 || zero && e != 0 || !zero && !m.testBit(0)) throw fault(place);
      if (m.abs().compareTo(BigInteger.TWO.pow(kind == 6 ? 24 : 53)) >= 0) throw fault(place);
      BigInteger eighths = m.shiftLeft(e);
      if (eighths.abs().compareTo(BigInteger.TWO.pow(66)) > 0) throw fault(place);
      BigDecimal exact = new BigDecimal(eighths).divide(BigDecimal.valueOf(8));
      if (kind == 6) return exact.floatValue();
      return exact.doubleValue();
    }

    private BigInteger step() {
      int place = p;
      BigInteger whole = BigInteger.ZERO;
      int groups = 0;
      int b;
      do {
        if (p >= bytes.size() || groups == 10) throw fault(place);
        b = bytes.get(p++);
        whole = whole.add(BigInteger.valueOf(b % 128).shiftLeft(7 * groups));
        groups++;
      } while (b >= 128);
      if (groups > 1 && b == 0 || groups == 10 && b > 1) throw fault(place);
      BigInteger half = whole.shiftRight(1);
      return whole.testBit(0) ? half.negate().subtract(BigInteger.ONE) : half;
    }
  }
}
