import java.io.IOException;
import java.lang.reflect.Constructor;
import java.lang.reflect.Field;
import java.lang.reflect.Method;
import java.lang.reflect.Modifier;
import java.nio.file.Files;
import java.nio.file.Path;
import java.util.Arrays;
import java.util.HashSet;
import java.util.List;
import java.util.Set;
import java.util.TreeSet;
import java.util.regex.Pattern;
import java.util.stream.Collectors;

/** The class has the document's face and no other, and its source uses nothing that LANGUAGE.md leaves out. */
public final class FaceTest {
  private static final Dues DUES = new Dues();

  private static final String CONSTANTS = "BAD NO FULL NONE NOTHING NOROW OPEN PLACE KIND FAULT";
  private static final List<String> METHODS = List.of(
      "int make(int, long)", "int kind(int)", "int size(int)", "int drop(int)", "int gather(int)", "int copyOf(int)",
      "long get(int, int, int)", "int set(int, int, int, long)", "int usable(int, int, int)", "long look(int, int, int)",
      "int put(int, int, int, long)", "int swap(int, int, int)", "int went(int)", "int carry(int, int, int, int, int)",
      "int convert(int, int)", "int shape(int, int)", "long sum(int, int)", "int mode(int)", "int lay(int)",
      "int tape(int)", "int poke(int, int)", "int cut(int)", "int seek(int)", "int read()", "int readAs(int)",
      "int skip()", "int relay(int)", "int slack(int)", "int find(int)", "int laid(int, int)", "int part(int, int)",
      "int hangs(int)", "int far(int, int)", "int twin(int)", "long called(int)", "int named(long)", "int count(int)");

  // Words that have no place in the source; the rule of LANGUAGE.md stands behind each.
  private static final String[][] LEFT_OUT = {
    {"->|::", "2"}, {"\\bimport\\b", "4"}, {"\\bpackage\\b", "4"}, {"\\bFloat\\b|\\bDouble\\b", "4"}, {"Exact\\b", "4"},
    {"\\bSystem\\.(?!arraycopy\\b)", "4"}, {"\\b(try|catch|finally|throw|throws)\\b", "6"},
    {"\\b(assert|synchronized)\\b", "6"}, {"\\bstatic\\s*\\{", "5"}, {"static (?!final)[a-z]+(\\[\\])? \\w+( =|;)", "5"},
    {"static final (double|float|short|byte) ", "5"}, {"[^\\x00-\\x7f]", "4"},
  };

  private static String signature(Method method) {
    String types = Arrays.stream(method.getParameterTypes()).map(Class::getName).collect(Collectors.joining(", "));
    return method.getReturnType().getName() + " " + method.getName() + "(" + types + ")";
  }

  private static void members() {
    Set<String> names = new HashSet<>();
    Set<String> found = new TreeSet<>();
    for (Method method : TapePress.class.getDeclaredMethods()) {
      if (Modifier.isPrivate(method.getModifiers())) continue;
      if (!Modifier.isPublic(method.getModifiers())) DUES.fail(signature(method) + " is neither public nor private");
      found.add(signature(method));
      names.add(method.getName());
    }
    if (!found.equals(new TreeSet<>(METHODS))) DUES.fail("the public methods are " + found);
    Set<Class<?>> classes = new HashSet<>(List.of(TapePress.class));
    classes.addAll(List.of(TapePress.class.getDeclaredClasses()));
    for (Class<?> each : classes) {
      for (Method method : each.getDeclaredMethods()) {
        boolean own = each == TapePress.class && Modifier.isPublic(method.getModifiers());
        if (!own && names.contains(method.getName())) DUES.fail(each + " has a second " + method.getName());
        if (method.getParameterCount() > 7) DUES.fail(method + " has more than seven parameters");
      }
      if (each != TapePress.class && !Modifier.isStatic(each.getModifiers())) DUES.fail(each + " is not static");
    }
    due("classes", classes.size() <= 12);
  }

  private static void fields() throws IllegalAccessException {
    Set<String> found = new HashSet<>();
    for (Field field : TapePress.class.getDeclaredFields()) {
      if (Modifier.isPrivate(field.getModifiers())) continue;
      found.add(field.getName());
      String wanted = "public static final";
      if (!Modifier.toString(field.getModifiers()).equals(wanted)) DUES.fail(field + " is not " + wanted);
    }
    String[] constants = CONSTANTS.split(" ");
    if (!found.equals(new HashSet<>(List.of(constants)))) DUES.fail("the constants are " + found);
    for (int k = 0; k < constants.length; k++) {
      try {
        DUES.due(constants[k], TapePress.class.getField(constants[k]).getInt(null), -1 - k);
      } catch (NoSuchFieldException e) {
        DUES.fail("there is no " + constants[k]);
      }
    }
  }

  private static void due(String what, boolean holds) {
    DUES.due(what, holds ? 1 : 0, 1);
  }

  private static void source() throws IOException {
    List<String> lines = Files.readAllLines(Path.of("src/main/java/TapePress.java"));
    int number = 0;
    for (String line : lines) {
      number++;
      String code = line.replaceAll("^\\s*(/\\*\\*|//).*$|// .*$", "");
      for (String[] rule : LEFT_OUT) {
        if (Pattern.compile(rule[0]).matcher(code).find()) DUES.fail("line " + number + ", rule " + rule[1] + ": " + line);
      }
    }
  }

  /** Rule 11: the calls that are open at once, but for those of a recursion, are eight at the most. */
  private static void callDepth() throws IOException {
    Calls calls = new Calls(Files.readAllLines(Path.of("src/main/java/TapePress.java")));
    due("the methods found in the source", calls.methods().size() > METHODS.size());
    for (String method : calls.methods()) {
      List<String> chain = calls.longestFrom(method);
      if (chain.size() > 8) DUES.fail("rule 11: " + chain.size() + " calls deep: " + chain);
    }
  }

  /** No call makes an object: what a run makes is only its TapePress. */
  private static void nothingMade() {
    com.sun.management.ThreadMXBean bean =
        (com.sun.management.ThreadMXBean) java.lang.management.ManagementFactory.getThreadMXBean();
    long made = Long.MAX_VALUE;
    for (int round = 0; round < 5; round++) {
      TapePress x = new TapePress();
      long before = bean.getThreadAllocatedBytes(Thread.currentThread().getId());
      everyCall(x);
      made = Math.min(made, bean.getThreadAllocatedBytes(Thread.currentThread().getId()) - before);
    }
    // The measuring itself makes a few objects.
    due("calls that make nothing, but made " + made + " bytes", made < 2000);
  }

  private static void everyCall(TapePress x) {
    for (int k = 0; k < 20; k++) {
      int t = x.make(12, 3);
      int u = x.make(7, 5);
      int s = x.make(9, 2);
      x.put(t, 0, 10, t);
      x.put(t, 1, 10, u);
      x.set(u, 6, 2, 77);
      x.put(s, 0, 8, 65782373L);
      x.put(s, 1, 8, 65782373L);
      x.shape(s, u);
      x.carry(u, 0, u, 1, 3);
      x.convert(u, 12);
      x.sum(u, 7);
      x.mode(k % 3);
      x.cut(0);
      x.lay(t);
      x.read();
      x.seek(0);
      x.readAs(12);
      x.relay(1);
      for (int i = 0; i < 10; i++) x.slack(i);
      x.find(t);
      x.laid(t, 2);
      x.part(t, u);
      x.hangs(t);
      x.far(t, u);
      x.skip();
      x.twin(u);
      x.copyOf(u);
      x.get(u, 7, 2);
      x.look(t, 0, 1);
      x.usable(u, 0, 1);
      x.swap(t, 0, 1);
      x.called(t);
      x.named(6959);
      x.gather(s);
      x.drop(s);
    }
  }

  public static void main(String[] args) throws Exception {
    DUES.promise("the face");
    due("public final", Modifier.toString(TapePress.class.getModifiers()).equals("public final"));
    Constructor<?>[] constructors = TapePress.class.getDeclaredConstructors();
    due("one constructor", constructors.length == 1 && Modifier.isPublic(constructors[0].getModifiers()));
    due("without parameters", constructors[0].getParameterCount() == 0);
    members();
    fields();
    DUES.promise("the language");
    source();
    callDepth();
    nothingMade();
    DUES.end();
  }
}
