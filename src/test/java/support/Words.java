/** The code of a word, letter by letter as the document computes it. */
final class Words {
  private Words() {}

  static long code(String word) {
    long code = 0;
    for (int k = 0; k < word.length(); k++) code = 27 * code + (word.charAt(k) - 'a' + 1);
    return code;
  }
}
