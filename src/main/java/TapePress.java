/** Keeps arrays of all Java element types in slots, and writes them to a byte tape and reads them back. */
public final class TapePress {
  public static final int BAD = -1, NO = -2, FULL = -3, NONE = -4, NOTHING = -5, NOROW = -6, OPEN = -7, PLACE = -8, KIND = -9, FAULT = -10;

  private static final int SLOTS = 12;
  private static final int LONGEST = 12;
  private static final int BEADS = 6;
  private static final int FIRST_PEARL = 3;
  private static final int MOST_LETTERS = 7;
  private static final int TAPE_ROOM = 200;
  // No element takes more than ten bytes, whatever the mode, and each array has a tag and a count.
  private static final int BUFFER_ROOM = SLOTS * (2 + LONGEST * 10);

  private static final int EMPTY = -1;
  private static final int BOOLEAN = 0, CHAR = 2, INT = 4, LONG = 5, FLOAT = 6, DOUBLE = 7;
  private static final int INTS = 8, WORDS = 9, BEADS_KIND = 10, PEARLS = 11, ANY = 12, ROWS = 13;
  private static final int BEAD = 14, WORD = 15;

  // What a cell holds: a kind from 0 to 7, or one of these. On the tape they are tags, too.
  private static final int A_WORD = 8, A_BEAD = 9, AN_ARRAY = 10, A_NULL = 11;

  private static final int FLAT = 0, RUNS = 1, STEPS = 2;

  private static final long LAST_WORD = 10460353202L;
  private static final long[] NAMES = {
    998286080L, // boolean
    58136L, // byte
    64926L, // char
    10266284L, // short
    6959L, // int
    247516L, // long
    3435824L, // float
    65782373L, // double
    187912L, // ints
    12531637L, // words
    1162153L, // beads
    232272865L, // pearls
    1132L, // any
    365869L, // rows
    43042L, // bead
    464134L, // word
  };

  private final Row[] slots = new Row[SLOTS];
  private final Strip strip = new Strip(TAPE_ROOM);
  private final Strip ours = new Strip(BUFFER_ROOM);
  private final Strip theirs = new Strip(BUFFER_ROOM);
  private final Reader reader = new Reader(strip);
  private final Writer slotWriter = new Writer(slots, ours);
  private final Writer otherWriter = new Writer(slots, theirs);
  private final Writer itemWriter = new Writer(reader.rows, theirs);
  private final int[] homes = new int[SLOTS];
  private final int[] errorCalls = new int[5];
  private int readPosition = 0;
  private int writeMode = FLAT;
  private int result = 0;
  private int spot = -1;

  public TapePress() {
    for (int t = 0; t < SLOTS; t++) slots[t] = new Row();
  }

  // ---- things

  public int make(int kind, long v) {
    if (kind < 0 || kind > WORD || !isContents(kind, v)) return BAD;
    int t = lowestEmpty();
    if (t < 0) return FULL;
    if (kind >= BEAD) slots[t].beThing(kind, v);
    else slots[t].beArray(kind, (int) v);
    return t;
  }

  public int kind(int t) {
    int error = slotError(t);
    return error != 0 ? error : slots[t].kind;
  }

  public int size(int t) {
    int error = arrayError(t);
    return error != 0 ? error : slots[t].length;
  }

  public int drop(int t) {
    int error = slotError(t);
    if (error != 0) return error;
    for (int other = 0; other < SLOTS; other++) {
      if (other != t && has(linksOf(other), t)) return NO;
    }
    slots[t].beEmpty();
    return filledSlots();
  }

  public int gather(int t) {
    int error = slotError(t);
    if (error != 0) return error;
    int kept = hangingOn(t);
    int emptied = 0;
    for (int other = 0; other < SLOTS; other++) {
      if (has(kept, other) || slots[other].isEmpty()) continue;
      slots[other].beEmpty();
      emptied++;
    }
    return emptied;
  }

  public int copyOf(int t) {
    int error = arrayError(t);
    if (error != 0) return error;
    int copy = lowestEmpty();
    if (copy < 0) return FULL;
    slots[copy].beLike(slots[t]);
    return copy;
  }

  // ---- numbers by kind

  public long get(int t, int kind, int place) {
    int error = getError(t, kind, place);
    tally(error);
    report(error, -1);
    return error != 0 ? 0 : Numbers.widened(slots[t].kind, kind, slots[t].values[place]);
  }

  public int set(int t, int kind, int place, long v) {
    int error = setError(t, kind, place, v);
    tally(error);
    if (error == 0) slots[t].hold(place, kind, Numbers.passed(kind, v));
    return error;
  }

  public int usable(int t, int place, int what) {
    if (what < 0 || what > 1) return BAD;
    int error = placeError(t, place);
    if (error != 0) return error;
    int own = slots[t].kind;
    int kinds = 0;
    for (int kind = BOOLEAN; kind <= DOUBLE; kind++) {
      boolean can = what == 0 ? Numbers.widens(own, kind) : Numbers.widens(kind, own);
      if (can) kinds |= 1 << kind;
    }
    return kinds;
  }

  // ---- what stands in cells

  public long look(int t, int place, int what) {
    int error = what < 0 || what > 1 ? BAD : placeError(t, place);
    tally(error);
    report(error, -1);
    if (error != 0) return 0;
    return what == 0 ? slots[t].whats[place] : slots[t].values[place];
  }

  public int put(int t, int place, int what, long v) {
    int error = putError(t, place, what, v);
    tally(error);
    if (error == 0) slots[t].hold(place, what, Numbers.passed(what, v));
    return error;
  }

  public int swap(int t, int i, int j) {
    int error = placeError(t, i);
    if (error == 0) error = placeError(t, j);
    if (error == 0) slots[t].exchange(i, j);
    return error;
  }

  public int went(int what) {
    if (what < 0 || what > 1) return BAD;
    return what == 0 ? result : spot;
  }

  // ---- whole rows

  public int carry(int t, int from, int u, int to, int n) {
    int error = n < 0 || n > LONGEST ? BAD : arrayPairError(t, u);
    if (error != 0) return report(error, -1);
    for (int k = 0; k < n; k++) {
      error = carryError(slots[t], from + k, slots[u], to + k);
      if (error != 0) {
        report(error, k);
        return k;
      }
      slots[u].hold(to + k, slots[t].whats[from + k], slots[t].values[from + k]);
    }
    report(0, -1);
    return n;
  }

  public int convert(int t, int kind) {
    int error = kind < BOOLEAN || kind > ROWS ? BAD : arrayError(t);
    return error != 0 ? report(error, -1) : keepConverted(slots[t], kind);
  }

  public int shape(int s, int t) {
    int error = shapeError(s, t);
    if (error != 0) return report(error, -1);
    Row schema = slots[s];
    Row numbers = slots[t];
    int length = Math.min(schema.length, numbers.length);
    for (int k = 0; k < length; k++) {
      if (!Numbers.widens(numbers.kind, kindInSchema(schema, k))) return report(KIND, k);
    }
    int made = lowestEmpty();
    if (made < 0) return report(FULL, -1);
    slots[made].beArray(ANY, length);
    for (int k = 0; k < length; k++) {
      int kind = kindInSchema(schema, k);
      slots[made].hold(k, kind, Numbers.widened(numbers.kind, kind, numbers.values[k]));
    }
    report(0, -1);
    return made;
  }

  public long sum(int t, int kind) {
    int error = kind < INT || kind > DOUBLE ? BAD : primitiveError(t);
    if (error != 0) {
      report(error, -1);
      return 0;
    }
    Row row = slots[t];
    if (row.length > 0 && !Numbers.widens(row.kind, kind)) {
      report(KIND, 0);
      return 0;
    }
    report(0, -1);
    return kind <= LONG ? wholeSum(row, kind) : kind == FLOAT ? floatSum(row) : doubleSum(row);
  }

  // ---- the tape

  public int mode(int m) {
    if (!isMode(m)) return BAD;
    int old = writeMode;
    writeMode = m;
    return old;
  }

  public int lay(int t) {
    int error = slotError(t);
    if (error != 0) return error;
    slotWriter.write(t, writeMode);
    return strip.append(ours) ? ours.length : FULL;
  }

  public int tape(int i) {
    return strip.has(i) ? strip.at(i) : BAD;
  }

  public int poke(int i, int b) {
    if (i < 0 || i > strip.length || b < 0 || b > 255) return BAD;
    if (i >= TAPE_ROOM) return FULL;
    if (i == strip.length) {
      strip.add(b);
      return NONE;
    }
    int old = strip.at(i);
    strip.replace(i, b);
    return old;
  }

  public int cut(int n) {
    if (n < 0 || n > strip.length) return BAD;
    int removed = strip.length - n;
    strip.length = n;
    readPosition = Math.min(readPosition, n);
    return removed;
  }

  public int seek(int p) {
    if (p < 0 || p > strip.length) return BAD;
    int old = readPosition;
    readPosition = p;
    return old;
  }

  public int read() {
    if (!reader.takeItem(strip, readPosition)) return report(FAULT, reader.fault);
    int end = reader.place;
    int slot = settle();
    if (slot < 0) return report(slot, -1);
    readPosition = end;
    report(0, -1);
    return slot;
  }

  public int readAs(int kind) {
    if (kind < BOOLEAN || kind > ROWS) return report(BAD, -1);
    if (!reader.takeItem(strip, readPosition)) return report(FAULT, reader.fault);
    Row row = reader.rows[0];
    if (!row.isArray()) return report(NOROW, -1);
    if (row.holdsArray()) return report(NO, -1);
    int made = keepConverted(row, kind);
    if (made >= 0) readPosition = reader.place;
    return made;
  }

  public int skip() {
    if (!reader.takeItem(strip, readPosition)) return report(FAULT, reader.fault);
    int bytes = reader.place - readPosition;
    readPosition = reader.place;
    report(0, -1);
    return bytes;
  }

  public int relay(int m) {
    if (!isMode(m)) return report(BAD, -1);
    if (!reader.takeItem(strip, readPosition)) return report(FAULT, reader.fault);
    itemWriter.write(0, m);
    if (!strip.append(theirs)) return report(FULL, -1);
    report(0, -1);
    return theirs.length;
  }

  public int slack(int i) {
    if (!strip.has(i)) return BAD;
    boolean sound = reader.takeItem(strip, readPosition);
    if (i < readPosition || !reader.mayHaveLookedAt(i)) return sound ? 256 : 0;
    int old = strip.at(i);
    int sounds = 0;
    for (int b = 0; b < 256; b++) {
      strip.replace(i, b);
      if (reader.takeItem(strip, readPosition)) sounds++;
    }
    strip.replace(i, old);
    return sounds;
  }

  public int find(int t) {
    int error = slotError(t);
    if (error != 0) return error;
    slotWriter.write(t, FLAT);
    for (int p = 0; p < strip.length; p++) {
      if (!reader.takeItem(strip, p)) continue;
      itemWriter.write(0, FLAT);
      if (ours.firstDifference(theirs) == NONE) return p;
    }
    return NONE;
  }

  public int laid(int t, int m) {
    if (!isMode(m)) return BAD;
    int error = slotError(t);
    if (error != 0) return error;
    slotWriter.write(t, m);
    return ours.length;
  }

  public int part(int t, int u) {
    int error = slotPairError(t, u);
    if (error != 0) return error;
    slotWriter.write(t, FLAT);
    otherWriter.write(u, FLAT);
    return ours.firstDifference(theirs);
  }

  // ---- what hangs on what

  public int hangs(int t) {
    int error = slotError(t);
    return error != 0 ? error : hangingOn(t);
  }

  public int far(int t, int u) {
    int error = slotPairError(t, u);
    if (error != 0) return error;
    int reached = linksOf(t);
    for (int links = 1; links <= SLOTS; links++) {
      if (has(reached, u)) return links;
      reached |= linksOfAll(reached);
    }
    return NONE;
  }

  public int twin(int t) {
    int error = slotError(t);
    if (error != 0) return error;
    slotWriter.write(t, FLAT);
    return reader.takeItem(ours, 0) ? settle() : FULL;
  }

  // ---- names

  public long called(int t) {
    return slotError(t) != 0 ? 0 : NAMES[slots[t].kind];
  }

  public int named(long w) {
    return isWord(w) ? kindNamed(w) : BAD;
  }

  public int count(int what) {
    if (what < 0 || what > 8) return BAD;
    switch (what) {
      case 0: return filledSlots();
      case 1: return strip.length;
      case 2: return readPosition;
      case 3: return writeMode;
      default: return errorCalls[what - 4];
    }
  }

  // ---- errors, in the order in which the document checks them

  private int slotError(int t) {
    if (!isSlot(t)) return BAD;
    return slots[t].isEmpty() ? NOTHING : 0;
  }

  private int arrayError(int t) {
    int error = slotError(t);
    if (error != 0) return error;
    return slots[t].isArray() ? 0 : NOROW;
  }

  private int primitiveError(int t) {
    int error = arrayError(t);
    if (error != 0) return error;
    return slots[t].isPrimitive() ? 0 : OPEN;
  }

  private int placeError(int t, int place) {
    int error = arrayError(t);
    if (error != 0) return error;
    return slots[t].hasPlace(place) ? 0 : PLACE;
  }

  /** The error that comes first in the document's order is the greater one, BAD before NOTHING before NOROW. */
  private int slotPairError(int t, int u) {
    return firstError(slotError(t), slotError(u));
  }

  private int arrayPairError(int t, int u) {
    return firstError(arrayError(t), arrayError(u));
  }

  private static int firstError(int one, int other) {
    if (one == 0) return other;
    return other == 0 ? one : Math.max(one, other);
  }

  private int getError(int t, int kind, int place) {
    if (!Numbers.isKind(kind)) return BAD;
    int error = primitiveError(t);
    if (error == 0) error = placeError(t, place);
    if (error != 0) return error;
    return Numbers.widens(slots[t].kind, kind) ? 0 : KIND;
  }

  private int setError(int t, int kind, int place, long v) {
    if (!Numbers.isKind(kind) || !Numbers.fits(kind, v)) return BAD;
    int error = primitiveError(t);
    if (error == 0) error = placeError(t, place);
    if (error != 0) return error;
    return Numbers.widens(kind, slots[t].kind) ? 0 : KIND;
  }

  private int putError(int t, int place, int what, long v) {
    if (what < 0 || what > A_NULL || !isValue(what, v)) return BAD;
    int error = placeError(t, place);
    if (error != 0) return error;
    return accepts(slots[t].kind, what, v) ? 0 : KIND;
  }

  private int carryError(Row source, int from, Row target, int to) {
    if (!source.hasPlace(from) || !target.hasPlace(to)) return PLACE;
    return accepts(target.kind, source.whats[from], source.values[from]) ? 0 : KIND;
  }

  private int shapeError(int s, int t) {
    int error = arrayPairError(s, t);
    if (error != 0) return error;
    if (slots[s].kind != WORDS) return NO;
    return slots[t].isPrimitive() ? 0 : OPEN;
  }

  private int report(int code, int where) {
    result = code;
    spot = where;
    return code;
  }

  private void tally(int error) {
    if (error <= NOTHING && error >= KIND) errorCalls[NOTHING - error]++;
  }

  // ---- slots and values

  private int lowestEmpty() {
    for (int t = 0; t < SLOTS; t++) {
      if (slots[t].isEmpty()) return t;
    }
    return -1;
  }

  private int filledSlots() {
    int filled = 0;
    for (int t = 0; t < SLOTS; t++) {
      if (!slots[t].isEmpty()) filled++;
    }
    return filled;
  }

  private static boolean isContents(int kind, long v) {
    if (kind == WORD) return isWord(v);
    return v >= 0 && v <= (kind == BEAD ? BEADS - 1 : LONGEST);
  }

  private static boolean isSlot(long t) {
    return t >= 0 && t < SLOTS;
  }

  private static boolean isMode(int m) {
    return m >= FLAT && m <= STEPS;
  }

  private static boolean isWord(long code) {
    if (code < 1 || code > LAST_WORD) return false;
    long rest = code;
    for (int k = 0; k < MOST_LETTERS && rest > 0; k++) {
      if (rest % 27 == 0) return false;
      rest /= 27;
    }
    return true;
  }

  private static int kindNamed(long code) {
    for (int kind = 0; kind < NAMES.length; kind++) {
      if (NAMES[kind] == code) return kind;
    }
    return NONE;
  }

  private static int kindInSchema(Row schema, int place) {
    return schema.whats[place] == A_WORD ? kindNamed(schema.values[place]) : NONE;
  }

  private boolean isValue(int what, long v) {
    switch (what) {
      case A_WORD: return isWord(v);
      case A_BEAD: return v >= 0 && v < BEADS;
      case AN_ARRAY: return isSlot(v) && slots[(int) v].isArray();
      case A_NULL: return v == 0;
      default: return Numbers.fits(what, v);
    }
  }

  private boolean accepts(int kind, int what, long v) {
    switch (kind) {
      case INTS: return what == INT || what == A_NULL;
      case WORDS: return what == A_WORD || what == A_NULL;
      case BEADS_KIND: return what == A_BEAD || what == A_NULL;
      case PEARLS: return what == A_BEAD && v >= FIRST_PEARL || what == A_NULL;
      case ANY: return true;
      case ROWS: return what == AN_ARRAY && isSlot(v) && slots[(int) v].kind == INT || what == A_NULL;
      default: return Numbers.widens(what, kind);
    }
  }

  private int keepConverted(Row row, int kind) {
    for (int k = 0; k < row.length; k++) {
      if (!accepts(kind, row.whats[k], row.values[k])) return report(KIND, k);
    }
    int made = lowestEmpty();
    if (made < 0) return report(FULL, -1);
    slots[made].beArray(kind, row.length);
    for (int k = 0; k < row.length; k++) slots[made].hold(k, row.whats[k], row.values[k]);
    report(0, -1);
    return made;
  }

  /** Puts what the reader has taken into slots; its links count the item's arrays, so they are turned into slots. */
  private int settle() {
    if (SLOTS - filledSlots() < reader.used) return FULL;
    for (int n = 0; n < reader.used; n++) {
      int home = lowestEmpty();
      if (home < 0) return FULL;
      homes[n] = home;
      slots[home].beLike(reader.rows[n]);
    }
    for (int n = 0; n < reader.used; n++) slots[homes[n]].relink(homes);
    return homes[0];
  }

  // ---- sums

  private static long wholeSum(Row row, int kind) {
    long total = 0;
    for (int k = 0; k < row.length; k++) total += row.values[k];
    return kind == INT ? (int) total : total;
  }

  private static long floatSum(Row row) {
    float total = 0;
    for (int k = 0; k < row.length; k++) {
      total = total + (float) Numbers.real(FLOAT, Numbers.widened(row.kind, FLOAT, row.values[k]));
    }
    return Numbers.bitsOf(FLOAT, total);
  }

  private static long doubleSum(Row row) {
    double total = 0;
    for (int k = 0; k < row.length; k++) {
      total = total + Numbers.real(DOUBLE, Numbers.widened(row.kind, DOUBLE, row.values[k]));
    }
    return Numbers.bitsOf(DOUBLE, total);
  }

  // ---- links, as sets of slots in which bit k stands for slot k

  private static boolean has(int set, int slot) {
    return (set >> slot & 1) == 1;
  }

  private int linksOf(int t) {
    Row row = slots[t];
    int links = 0;
    for (int k = 0; k < row.length; k++) {
      if (row.whats[k] == AN_ARRAY) links |= 1 << (int) row.values[k];
    }
    return links;
  }

  private int linksOfAll(int set) {
    int links = 0;
    for (int t = 0; t < SLOTS; t++) {
      if (has(set, t)) links |= linksOf(t);
    }
    return links;
  }

  private int hangingOn(int t) {
    int reached = 1 << t;
    for (int links = 0; links < SLOTS; links++) reached |= linksOfAll(reached);
    return reached;
  }

  /** The contents of a slot, or of a part of an item. */
  private static final class Row {
    int kind = EMPTY;
    int length = 0;
    final int[] whats = new int[LONGEST];
    // A float or double is held as its bits, a bead or word in a slot in the first value.
    final long[] values = new long[LONGEST];

    boolean isEmpty() {
      return kind == EMPTY;
    }

    boolean isArray() {
      return kind >= BOOLEAN && kind <= ROWS;
    }

    boolean isPrimitive() {
      return Numbers.isKind(kind);
    }

    boolean hasPlace(int place) {
      return place >= 0 && place < length;
    }

    boolean holdsArray() {
      for (int k = 0; k < length; k++) {
        if (whats[k] == AN_ARRAY) return true;
      }
      return false;
    }

    void beEmpty() {
      kind = EMPTY;
      length = 0;
    }

    void beThing(int newKind, long v) {
      kind = newKind;
      length = 0;
      values[0] = v;
    }

    void beArray(int newKind, int newLength) {
      kind = newKind;
      length = newLength;
      int blank = isPrimitive() ? newKind : A_NULL;
      for (int k = 0; k < newLength; k++) fill(k, blank, 0);
    }

    void beLike(Row other) {
      kind = other.kind;
      length = other.length;
      System.arraycopy(other.whats, 0, whats, 0, LONGEST);
      System.arraycopy(other.values, 0, values, 0, LONGEST);
    }

    /** Sets an element to a value that this array accepts. */
    void hold(int place, int what, long v) {
      if (isPrimitive()) fill(place, kind, Numbers.widened(what, kind, v));
      else fill(place, what, v);
    }

    void fill(int place, int what, long v) {
      whats[place] = what;
      values[place] = v;
    }

    void exchange(int i, int j) {
      int what = whats[i];
      long v = values[i];
      fill(i, whats[j], values[j]);
      fill(j, what, v);
    }

    void relink(int[] homes) {
      for (int k = 0; k < length; k++) {
        if (whats[k] == AN_ARRAY) values[k] = homes[(int) values[k]];
      }
    }
  }

  /** The numbers of the kinds 0 to 7, each held as the long as which it is returned. */
  private static final class Numbers {
    // For each kind, the set of the kinds to which it widens: bit k stands for kind k.
    private static final int[] WIDER = {
      0b00000001, 0b11111010, 0b11110100, 0b11111000, 0b11110000, 0b11100000, 0b11000000, 0b10000000,
    };
    private static final long[] LEAST = {0, -128, 0, -32768, -2147483648L, -9223372036854775808L};
    private static final long[] GREATEST = {1, 127, 65535, 32767, 2147483647L, 9223372036854775807L};
    // The bytes of each number on the tape, for a float or double those of m.
    static final int[] WIDTHS = {1, 1, 2, 2, 4, 8, 4, 8};
    // Far above what a sum of twelve numbers of at most 2 to the power of 63 needs.
    private static final int MOST_HALVINGS = 100;
    private static final int FLOAT_FRACTION = 23, FLOAT_BIAS = 127;
    private static final int DOUBLE_FRACTION = 52, DOUBLE_BIAS = 1023;

    static boolean isKind(int kind) {
      return kind >= BOOLEAN && kind <= DOUBLE;
    }

    static boolean widens(int from, int to) {
      return isKind(from) && isKind(to) && (WIDER[from] >> to & 1) == 1;
    }

    static boolean fits(int kind, long v) {
      return kind > LONG || kind >= BOOLEAN && v >= LEAST[kind] && v <= GREATEST[kind];
    }

    /** The number that a caller passes as v; other values than floats and doubles are v itself. */
    static long passed(int what, long v) {
      if (what == FLOAT) return bitsOf(FLOAT, (float) v * 0.125f);
      if (what == DOUBLE) return bitsOf(DOUBLE, (double) v * 0.125);
      return v;
    }

    static long widened(int from, int to, long v) {
      if (from == to || to <= LONG) return v;
      if (from == FLOAT) return bitsOf(DOUBLE, real(FLOAT, v));
      return to == FLOAT ? bitsOf(FLOAT, (float) v) : bitsOf(DOUBLE, (double) v);
    }

    /** All floats and doubles here are multiples of 1/8, so that they have an m and an e of at least 0. */
    static long bitsOf(int kind, double number) {
      double limit = kind == FLOAT ? 16777216.0 : 9007199254740992.0;
      double m = number * 8;
      int e = 0;
      while (e < MOST_HALVINGS && (m >= limit || m <= -limit)) {
        m = m * 0.5;
        e++;
      }
      return scaledBits(kind, (long) m, e);
    }

    /** The bits of m * 2 to the power of (e - 3), with m odd or even. */
    static long scaledBits(int kind, long m, int e) {
      if (m == 0) return 0;
      long size = m < 0 ? -m : m;
      int top = 63 - Long.numberOfLeadingZeros(size);
      int room = kind == FLOAT ? FLOAT_FRACTION : DOUBLE_FRACTION;
      // A float's bits are an int, whose sign fills the upper half of the long.
      long sign = m < 0 ? -1L << (kind == FLOAT ? 31 : 63) : 0;
      long exponent = e - 3 + top + (kind == FLOAT ? FLOAT_BIAS : DOUBLE_BIAS);
      return sign | exponent << room | (size << room - top) - (1L << room);
    }

    /** The value of the bits of a float or double. */
    static double real(int kind, long bits) {
      double value = (double) oddPart(kind, bits) * 0.125;
      int e = powerPart(kind, bits);
      for (int k = 0; k < e; k++) value = value * 2;
      return value;
    }

    /** The m of the number m * 2 to the power of (e - 3) that has these bits. */
    static long oddPart(int kind, long bits) {
      if (bits == 0) return 0;
      long one = 1L << (kind == FLOAT ? FLOAT_FRACTION : DOUBLE_FRACTION);
      long digits = bits & one - 1 | one;
      long odd = digits >> Long.numberOfTrailingZeros(digits);
      return bits < 0 ? -odd : odd;
    }

    /** The e of the number m * 2 to the power of (e - 3) that has these bits. */
    static int powerPart(int kind, long bits) {
      if (bits == 0) return 0;
      int room = kind == FLOAT ? FLOAT_FRACTION : DOUBLE_FRACTION;
      int exponent = kind == FLOAT ? (int) (bits >> room & 255) - FLOAT_BIAS : (int) (bits >> room & 2047) - DOUBLE_BIAS;
      // The digit before the fraction is not among the bits, and is always 1.
      return exponent - room + 3 + Math.min(Long.numberOfTrailingZeros(bits), room);
    }
  }

  /** A sequence of bytes, each from 0 to 255, with room for so many. */
  private static final class Strip {
    private final int[] bytes;
    int length = 0;

    Strip(int room) {
      bytes = new int[room < 0 ? 0 : room];
    }

    boolean has(int i) {
      return i >= 0 && i < length;
    }

    /** Behind the end stands -1, which is no byte, so that a reader sees that its part is not complete. */
    int at(int i) {
      return i >= 0 && i < length ? bytes[i] : -1;
    }

    void add(int b) {
      if (length >= bytes.length) return;
      bytes[length] = b;
      length++;
    }

    void replace(int i, int b) {
      if (has(i)) bytes[i] = b;
    }

    boolean append(Strip other) {
      if (length + other.length > bytes.length) return false;
      System.arraycopy(other.bytes, 0, bytes, length, other.length);
      length += other.length;
      return true;
    }

    int firstDifference(Strip other) {
      int shorter = Math.min(length, other.length);
      for (int i = 0; i < shorter; i++) {
        if (bytes[i] != other.bytes[i]) return i;
      }
      return length == other.length ? NONE : shorter;
    }
  }

  /** Writes an item from rows whose links are indices of these rows. */
  private static final class Writer {
    private final Row[] rows;
    private final Strip out;
    private final int[] numbers = new int[SLOTS];
    private int known = 0;
    private int form = FLAT;

    Writer(Row[] rows, Strip out) {
      this.rows = rows;
      this.out = out;
    }

    void write(int index, int newForm) {
      out.length = 0;
      known = 0;
      form = newForm;
      for (int k = 0; k < SLOTS; k++) numbers[k] = -1;
      Row row = rows[index];
      if (row.isArray()) writeArray(index);
      else writeTagged(row.kind == WORD ? A_WORD : A_BEAD, row.values[0]);
    }

    /** Each array is written out only once, so no more than twelve of these calls stand open. */
    private void writeArray(int index) {
      if (numbers[index] >= 0) {
        out.add(AN_ARRAY);
        out.add(numbers[index]);
        return;
      }
      if (known >= SLOTS) return;
      numbers[index] = known;
      known++;
      Row row = rows[index];
      if (row.isPrimitive()) writePrimitive(row);
      else writeObjects(row);
    }

    private void writeObjects(Row row) {
      writeHead(FLAT, row);
      for (int k = 0; k < row.length; k++) {
        if (row.whats[k] == AN_ARRAY) writeArray((int) row.values[k]);
        else writeTagged(row.whats[k], row.values[k]);
      }
    }

    /** Writes any value but an array. */
    private void writeTagged(int what, long v) {
      out.add(what);
      if (what == A_WORD) writeLetters(v);
      else if (what == A_BEAD) out.add((int) v);
      else if (Numbers.isKind(what)) writeNumber(what, v);
    }

    private void writeLetters(long code) {
      int letters = 0;
      for (long rest = code; rest > 0 && letters < MOST_LETTERS; rest /= 27) letters++;
      out.add(letters);
      for (int behind = letters - 1; behind >= 0; behind--) out.add('a' - 1 + letterOf(code, behind));
    }

    private static int letterOf(long code, int behind) {
      long rest = code;
      for (int k = 0; k < behind; k++) rest /= 27;
      return (int) (rest % 27);
    }

    private void writeHead(int written, Row row) {
      out.add(16 * (written + 1) + row.kind);
      out.add(row.length);
    }

    private void writePrimitive(Row row) {
      boolean whole = row.kind > BOOLEAN && row.kind <= LONG;
      int written = form == STEPS && !whole ? FLAT : form;
      writeHead(written, row);
      if (written == RUNS) writeRuns(row);
      else if (written == STEPS) writeSteps(row);
      else writeFlat(row);
    }

    private void writeFlat(Row row) {
      for (int k = 0; k < row.length; k++) writeNumber(row.kind, row.values[k]);
    }

    private void writeRuns(Row row) {
      int begun = 0;
      for (int k = 1; k <= row.length; k++) {
        if (k < row.length && row.values[k] == row.values[begun]) continue;
        out.add(k - begun);
        writeNumber(row.kind, row.values[begun]);
        begun = k;
      }
    }

    private void writeSteps(Row row) {
      long before = 0;
      for (int k = 0; k < row.length; k++) {
        writeStep(row.values[k] - before);
        before = row.values[k];
      }
    }

    private void writeStep(long step) {
      long rest = step << 1 ^ step >> 63;
      for (int group = 0; group < 9 && (rest & ~127L) != 0; group++) {
        out.add((int) (rest & 127) + 128);
        rest >>>= 7;
      }
      out.add((int) rest);
    }

    private void writeNumber(int kind, long v) {
      boolean scaled = kind >= FLOAT;
      if (scaled) out.add(Numbers.powerPart(kind, v));
      long whole = scaled ? Numbers.oddPart(kind, v) : v;
      for (int k = Numbers.WIDTHS[kind] - 1; k >= 0; k--) out.add((int) (whole >> 8 * k) & 255);
    }
  }

  /** Takes an item from a strip into rows of its own, whose links are the numbers of the item's arrays. */
  private static final class Reader {
    private static final int MOST_GROUPS = 10;
    private static final int GREATEST_POWER = 66;
    final Row[] rows = new Row[SLOTS];
    int used = 0;
    int place = 0;
    int fault = -1;
    private Strip source;
    private long value = 0;

    Reader(Strip source) {
      this.source = source;
      for (int n = 0; n < SLOTS; n++) rows[n] = new Row();
    }

    boolean takeItem(Strip strip, int from) {
      source = strip;
      place = from;
      fault = -1;
      used = 0;
      int tag = source.at(from);
      if (isArrayTag(tag)) return takeArray(tag);
      if (tag != A_WORD && tag != A_BEAD) return failAt(from);
      place++;
      boolean sound = tag == A_WORD ? takeWord() : takeBead(0);
      rows[0].beThing(tag == A_WORD ? WORD : BEAD, value);
      used = 1;
      return sound;
    }

    /** A part has ten bytes at most, so what stands that far behind a fault has not been looked at. */
    boolean mayHaveLookedAt(int i) {
      return fault < 0 ? i < place : i < fault + MOST_GROUPS;
    }

    private boolean failAt(int where) {
      fault = where;
      return false;
    }

    private static boolean isArrayTag(int tag) {
      return tag >= 16 && tag <= 29 || tag >= 32 && tag <= 39 || tag >= 49 && tag <= 53;
    }

    /** A 13th array is refused, so no more than twelve of these calls stand open. */
    private boolean takeArray(int tag) {
      if (used >= SLOTS) return failAt(place);
      Row row = rows[used];
      used++;
      place++;
      int length = source.at(place);
      if (length < 0 || length > LONGEST) return failAt(place);
      place++;
      row.beArray(tag & 15, length);
      switch ((tag >> 4) - 1) {
        case RUNS: return takeRuns(row);
        case STEPS: return takeSteps(row);
        default: return row.isPrimitive() ? takeFlat(row) : takeObjects(row);
      }
    }

    private boolean takeObjects(Row row) {
      for (int k = 0; k < row.length; k++) {
        int tag = source.at(place);
        if (!mayStand(row.kind, tag)) return failAt(place);
        boolean isArray = isArrayTag(tag);
        int number = used;
        if (!(isArray ? takeArray(tag) : takeElement(row.kind, tag))) return false;
        row.fill(k, isArray ? AN_ARRAY : tag, isArray ? number : value);
      }
      return true;
    }

    private static boolean mayStand(int kind, int tag) {
      if (tag == A_NULL) return true;
      switch (kind) {
        case INTS: return tag == INT;
        case WORDS: return tag == A_WORD;
        case BEADS_KIND: return tag == A_BEAD;
        case PEARLS: return tag == A_BEAD;
        case ROWS: return tag == AN_ARRAY || isArrayTag(tag) && (tag & 15) == INT;
        default: return tag >= 0 && tag < A_NULL || isArrayTag(tag);
      }
    }

    private boolean takeElement(int kind, int tag) {
      place++;
      switch (tag) {
        case A_WORD: return takeWord();
        case A_BEAD: return takeBead(kind == PEARLS ? FIRST_PEARL : 0);
        case AN_ARRAY: return takeBackLink(kind);
        case A_NULL:
          value = 0;
          return true;
        default: return takeNumber(tag);
      }
    }

    private boolean takeWord() {
      int letters = source.at(place);
      if (letters < 1 || letters > MOST_LETTERS) return failAt(place);
      place++;
      value = 0;
      for (int k = 0; k < letters; k++) {
        int letter = source.at(place);
        if (letter < 'a' || letter > 'z') return failAt(place);
        value = 27 * value + letter - 'a' + 1;
        place++;
      }
      return true;
    }

    private boolean takeBead(int least) {
      value = source.at(place);
      if (value < least || value >= BEADS) return failAt(place);
      place++;
      return true;
    }

    private boolean takeBackLink(int kind) {
      int number = source.at(place);
      if (number < 0 || number >= used) return failAt(place);
      if (kind == ROWS && rows[number].kind != INT) return failAt(place);
      value = number;
      place++;
      return true;
    }

    private boolean takeFlat(Row row) {
      for (int k = 0; k < row.length; k++) {
        if (!takeNumber(row.kind)) return false;
        row.fill(k, row.kind, value);
      }
      return true;
    }

    private boolean takeRuns(Row row) {
      int run = 0;
      for (int k = 0; k < row.length; k++) {
        if (run == 0) {
          run = source.at(place);
          if (run < 1 || run > row.length - k) return failAt(place);
          place++;
          if (!takeNumber(row.kind)) return false;
        }
        row.fill(k, row.kind, value);
        run--;
      }
      return true;
    }

    private boolean takeSteps(Row row) {
      long number = 0;
      for (int k = 0; k < row.length; k++) {
        int start = place;
        if (!takeStep()) return false;
        number += value;
        if (!Numbers.fits(row.kind, number)) return failAt(start);
        row.fill(k, row.kind, number);
      }
      return true;
    }

    private boolean takeStep() {
      long folded = 0;
      for (int group = 0; group < MOST_GROUPS; group++) {
        int b = source.at(place + group);
        if (b < 0 || group == MOST_GROUPS - 1 && b > 1) return failAt(place);
        folded |= (long) (b & 127) << 7 * group;
        if (b >= 128) continue;
        if (b == 0 && group > 0) return failAt(place);
        place += group + 1;
        value = folded >>> 1 ^ -(folded & 1);
        return true;
      }
      return failAt(place);
    }

    private boolean takeNumber(int kind) {
      boolean scaled = kind >= FLOAT;
      int digits = scaled ? place + 1 : place;
      int end = digits + Numbers.WIDTHS[kind];
      if (end > source.length) return failAt(place);
      int e = source.at(place);
      long number = signedAt(digits, end);
      if (kind == CHAR) number &= 65535;
      if (!(scaled ? isScaled(kind, number, e) : Numbers.fits(kind, number))) return failAt(place);
      value = scaled ? Numbers.scaledBits(kind, number, e) : number;
      place = end;
      return true;
    }

    private static boolean isScaled(int kind, long m, int e) {
      if (m == 0) return e == 0;
      if ((m & 1) == 0 || e > GREATEST_POWER) return false;
      long size = m < 0 ? -m : m;
      int digits = 64 - Long.numberOfLeadingZeros(size);
      if (digits > (kind == FLOAT ? 24 : 53)) return false;
      // Being odd, m is a power of two only if it is 1; any other one must stay below the bound.
      return size == 1 || digits + e <= GREATEST_POWER;
    }

    private long signedAt(int from, int end) {
      long number = source.at(from) >= 128 ? -1 : 0;
      for (int k = from; k < end; k++) number = number << 8 | source.at(k);
      return number;
    }
  }
}
