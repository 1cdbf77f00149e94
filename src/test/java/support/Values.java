import java.util.Map;

/** The numbers that texts of the tests stand for. */
final class Values {
  private static final Map<String, Long> NAMED = Map.ofEntries(
      Map.entry("BAD", -1L), Map.entry("NO", -2L), Map.entry("FULL", -3L), Map.entry("NONE", -4L),
      Map.entry("NOTHING", -5L), Map.entry("NOROW", -6L), Map.entry("OPEN", -7L), Map.entry("PLACE", -8L),
      Map.entry("KIND", -9L), Map.entry("FAULT", -10L),
      Map.entry("INT_MIN", (long) Integer.MIN_VALUE), Map.entry("INT_MAX", (long) Integer.MAX_VALUE),
      Map.entry("LONG_MIN", Long.MIN_VALUE), Map.entry("LONG_MAX", Long.MAX_VALUE));

  private Values() {}

  /** A number, a constant, a word as 'cab', or the bits of a float or double as f:0.125 or d:0.125. */
  static long of(String text) {
    if (NAMED.containsKey(text)) return NAMED.get(text);
    if (text.startsWith("'")) return Words.code(text.substring(1, text.length() - 1));
    if (text.startsWith("f:")) return Float.floatToIntBits(Float.parseFloat(text.substring(2)));
    if (text.startsWith("d:")) return Double.doubleToLongBits(Double.parseDouble(text.substring(2)));
    return Long.parseLong(text);
  }
}
