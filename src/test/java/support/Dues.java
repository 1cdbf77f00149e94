/** Counts and prints the answers that are not the ones that are due. */
final class Dues {
  private int wrong = 0;
  private int asked = 0;
  private String promise = "";

  void promise(String name) {
    promise = name;
  }

  void due(String call, long got, long want) {
    asked++;
    if (got == want) return;
    wrong++;
    System.out.println(promise + ": " + call + " answered " + got + ", due is " + want);
  }

  void same(String what, String got, String want) {
    asked++;
    if (got.equals(want)) return;
    wrong++;
    System.out.println(promise + ": " + what + " is " + got + ", due is " + want);
  }

  void fail(String text) {
    asked++;
    wrong++;
    System.out.println(promise + ": " + text);
  }

  int wrong() {
    return wrong;
  }

  void end() {
    System.out.println(wrong == 0 ? asked + " answers are as due" : wrong + " of " + asked + " answers are not as due");
    if (wrong != 0) System.exit(1);
  }
}
