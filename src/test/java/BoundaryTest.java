import java.nio.file.Path;
import java.util.ArrayList;
import java.util.List;
import java.util.regex.Matcher;
import java.util.regex.Pattern;

/**
 * Each sentence of the document that names a boundary case, with calls on a new object and the answers that it asks for.
 * The sentences and calls stand in src/test/boundaries; README.md there tells how they are written.
 */
public final class BoundaryTest {
  private static final Pattern CALL = Pattern.compile("(\\w+)\\(([^)]*)\\)(?: = (\\S+))?(?: ! (\\S+) (\\S+))?");
  // The words of the document that name no boundary case; no calls stand behind them.
  private static final String PLAIN = "plain.txt";
  private static final Face FACE = new Face(TapePress.class);

  private final Dues dues;
  private Watched press;

  private BoundaryTest(Dues dues) {
    this.dues = dues;
    press = new Watched(dues);
  }

  private static long[] values(String text, String between) {
    if (text.isBlank()) return new long[0];
    String[] parts = text.trim().split(between);
    long[] values = new long[parts.length];
    for (int k = 0; k < parts.length; k++) values[k] = Values.of(parts[k].trim());
    return values;
  }

  /** Bytes with blanks between them, of which 5*0 is five zeros. */
  private static List<Long> bytes(String text) {
    List<Long> bytes = new ArrayList<>();
    if (text.isBlank()) return bytes;
    for (String part : text.trim().split("\\s+")) {
      int star = part.indexOf('*');
      int times = star < 0 ? 1 : Integer.parseInt(part.substring(0, star));
      for (int k = 0; k < times; k++) bytes.add(Values.of(part.substring(star + 1)));
    }
    return bytes;
  }

  private void step(String text) {
    Matcher call = CALL.matcher(text);
    if (call.matches()) {
      call(text, call);
      return;
    }
    String[] parts = text.split(" ", 2);
    String rest = parts.length > 1 ? parts[1] : "";
    switch (parts[0]) {
      case "new": press = new Watched(dues); break;
      case "bytes": append(bytes(rest)); break;
      case "fill": fill(rest.isEmpty() ? 0 : Integer.parseInt(rest)); break;
      case "tape": dues.same(text, press.picture().tape.toString(), bytes(rest).toString()); break;
      case "cells": cells(rest); break;
      case "fault": faultIn(rest.split(" of", 2)); break;
      case "sound": soundIn(rest.split("of", 2)); break;
      default: repeat(parts[0], rest);
    }
  }

  private void call(String text, Matcher call) {
    String name = call.group(1);
    long[] args = values(call.group(2), ",");
    if (!FACE.has(name, args.length)) throw new IllegalStateException("no such method: " + text);
    Long result = call.group(4) == null ? null : Values.of(call.group(4));
    Long spot = call.group(5) == null ? null : Values.of(call.group(5));
    long answer = press.call(name, args, result, spot);
    if (call.group(3) != null) dues.due(text, answer, Values.of(call.group(3)));
    else if (answer < 0 && answer != TapePress.NONE) dues.fail(text + ", a preparation, answered " + answer);
  }

  private void repeat(String times, String text) {
    if (!times.matches("\\d+x")) throw new IllegalStateException("not a step: " + times + " " + text);
    for (int k = Integer.parseInt(times.substring(0, times.length() - 1)); k > 0; k--) step(text);
  }

  private void append(List<Long> bytes) {
    long end = press.prepare("count", 1);
    for (long b : bytes) {
      if (press.prepare("poke", end, b) != TapePress.NONE) dues.fail("no room for the byte " + b);
      end++;
    }
  }

  /** Byte arrays without elements, until so many slots are empty. */
  private void fill(int left) {
    for (long filled = press.prepare("count", 0); filled < 12 - left; filled++) press.prepare("make", 1, 0);
  }

  /** "0 = 4:7 11:0": the array in slot 0 has these elements, each with its what and v. */
  private void cells(String text) {
    String[] sides = text.split("=", 2);
    List<String> want = new ArrayList<>();
    for (String part : sides[1].trim().split("\\s+")) {
      if (part.isEmpty()) continue;
      String[] pair = part.split(":", 2);
      want.add(pair[0] + ":" + Values.of(pair[1]));
    }
    List<String> seen = press.picture().slots.get(Integer.parseInt(sides[0].trim()));
    dues.same("cells " + text, seen.subList(1, seen.size()).toString(), want.toString());
  }

  /** "fault 3" tells of the item at the read position, "fault 3 of 8 2 97 0" of these bytes in a new object. */
  private void faultIn(String[] parts) {
    if (parts.length > 1) {
      press = new Watched(dues);
      append(bytes(parts[1]));
    }
    fault(Values.of(parts[0]));
  }

  /** "sound 4" tells of the item at the read position, "sound of 8 2 97 98" of these bytes in a new object. */
  private void soundIn(String[] parts) {
    if (parts.length == 1) {
      sound(Values.of(parts[0]));
      return;
    }
    press = new Watched(dues);
    List<Long> item = bytes(parts[1]);
    append(item);
    sound(item.size());
    dues.due("read()", press.call("read", new long[0], null, null), 0);
  }

  /** The item at the read position has its fault at a place: all that read it say so. */
  private void fault(long place) {
    for (String name : List.of("skip", "read")) {
      dues.due(name + "()", press.call(name, new long[0], (long) TapePress.FAULT, place), TapePress.FAULT);
    }
    for (String name : List.of("readAs", "relay")) {
      dues.due(name + "(0)", press.call(name, new long[] {0}, (long) TapePress.FAULT, place), TapePress.FAULT);
    }
  }

  /** The item at the read position has so many bytes and no fault; the read position stays. */
  private void sound(long bytes) {
    long position = press.prepare("count", 2);
    dues.due("skip()", press.call("skip", new long[0], null, null), bytes);
    dues.due("count(2) after skip()", press.prepare("count", 2), position + bytes);
    press.prepare("seek", position);
  }

  private static void play(Case each, Dues dues) {
    dues.promise((each.chapter.matches("\\d+") ? "promise " : "") + each.chapter + ", '" + each.words + "', " + each.where);
    BoundaryTest test = new BoundaryTest(dues);
    for (String step : each.steps) {
      try {
        test.step(step);
      } catch (RuntimeException e) {
        dues.fail(step + " cannot be done: " + e);
      }
    }
  }

  public static void main(String[] args) throws Exception {
    Dues dues = new Dues();
    DocText doc = new DocText(Path.of("../shared/DOC.md"));
    for (Case each : Case.allUnder(Path.of("src/test/boundaries"))) {
      play(each, dues);
      if (!doc.quote(each.chapter, each.words)) dues.fail("these words do not stand in that chapter of the document");
      if (each.steps.isEmpty() != each.where.startsWith(PLAIN)) dues.fail("calls stand in all files but " + PLAIN);
    }
    dues.promise("the document");
    doc.dueAllQuoted(dues);
    dues.end();
  }
}
