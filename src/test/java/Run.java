import java.io.IOException;
import java.lang.reflect.InvocationTargetException;
import java.lang.reflect.Method;
import java.nio.file.Files;
import java.nio.file.Path;
import java.util.ArrayList;
import java.util.Arrays;
import java.util.HashMap;
import java.util.List;
import java.util.Map;
import java.util.function.Supplier;

/** One object and the calls on it, each with the answer that is due (a boolean counts 1 or 0); shared by the tests of bounds. */
final class Run {
  /** What an object answers after so many calls is free, so a test that asks for more is wrong itself. */
  private static final int MOST_CALLS = 512;
  private static final Map<String, Method> METHODS = new HashMap<>();
  private static final String DOCUMENT = document();
  private static int tests = 0;
  private static int wrong = 0;
  private static String sentence = "";

  private final MirageLoans it = new MirageLoans();
  private int calls = 0;

  // ---- tests, each of one sentence of the document

  /** The sentence must stand in the document as it is quoted, so that no test outlives the words that it is of. */
  static void test(String words, Runnable run) {
    tests++;
    sentence = words;
    if (!DOCUMENT.isEmpty() && !DOCUMENT.contains(words)) fail("the document has no such words");
    run.run();
  }

  static void end() {
    System.out.println(wrong == 0 ? "all answers are as due, " + tests + " sentences" : wrong + " answers are not as due");
    if (wrong != 0) System.exit(1);
  }

  static String document() {
    Path doc = Path.of("..", "shared", "DOC.md");
    try {
      return Files.exists(doc) ? Files.readString(doc).replaceAll("\\s+", " ") : "";
    } catch (IOException e) {
      return "";
    }
  }

  private static void fail(String what) {
    wrong++;
    System.out.println("\"" + sentence + "\": " + what);
  }

  // ---- calls

  static {
    for (Method m : MirageLoans.class.getDeclaredMethods()) METHODS.put(m.getName(), m);
  }

  long ask(String name, int... args) {
    calls++;
    if (calls > MOST_CALLS) throw new IllegalStateException("the test has more than " + MOST_CALLS + " calls on one object");
    Object[] boxed = new Object[args.length];
    for (int i = 0; i < args.length; i++) boxed[i] = args[i];
    try {
      Object got = METHODS.get(name).invoke(it, boxed);
      return got instanceof Boolean ? ((Boolean) got ? 1 : 0) : (Integer) got;
    } catch (InvocationTargetException e) {
      fail(said(name, args) + " threw " + e.getCause());
      return Long.MIN_VALUE;
    } catch (IllegalAccessException e) {
      throw new IllegalStateException(e);
    }
  }

  private static String said(String name, int... args) {
    return name + Arrays.toString(args).replace('[', '(').replace(']', ')');
  }

  Run due(long want, String name, int... args) {
    long got = ask(name, args);
    if (got != want) fail(said(name, args) + " answered " + got + ", due is " + want);
    return this;
  }

  /** For setting the scene: the call must be taken, whatever it answers. */
  Run done(String name, int... args) {
    long got = ask(name, args);
    if (got < 0) fail(said(name, args) + " was refused: " + got);
    return this;
  }

  int calls() { return calls; }

  static void same(String what, long got, long want) {
    if (got != want) fail(what + ": " + got + ", due is " + want);
  }

  // ---- texts

  /** Twenty bytes a call, blanks behind the last ones, which are taken back. */
  Run feed(String text) {
    int size = (text.length() + 19) / 20 * 20;
    for (int at = 0; at < size; at += 20) {
      int[] words = new int[5];
      for (int i = 0; i < 20; i++) words[i / 4] = words[i / 4] << 8 | (at + i < text.length() ? text.charAt(at + i) & 255 : ' ');
      done("feed", words);
    }
    return size == text.length() ? this : done("back", size - text.length());
  }

  Run read(String text) {
    feed(text);
    long got = ask("read");
    if (got != 0) fail("read of '" + text + "' answered " + got + " at " + ask("place") + ", due is 0");
    return this;
  }

  static Run of(String text) { return new Run().read(text); }

  static void right(String text) { fault(0, -1, text); }

  static void fault(int number, int place, String text) {
    Run x = new Run().feed(text);
    long got = x.ask("read");
    long at = x.ask("place");
    if (got != number || at != place)
      fail("read of '" + text + "' answered " + got + " at " + at + ", due is " + number + " at " + place);
  }

  // ---- what must not have changed

  /** The call answers so, and nothing happens: the object is like a twin on which it was not called. */
  static void unchanged(Supplier<Run> made, long want, String name, int... args) {
    Run it = made.get().due(want, name, args);
    it.like(made.get(), "behind " + said(name, args));
  }

  /** The argument at a place is taken from the least to the most; what lies outside is refused, and nothing happens. */
  static void bounds(Supplier<Run> made, long refusal, String name, int[] args, int place, int... leastAndMost) {
    for (int taken : leastAndMost) {
      int[] call = args.clone();
      call[place] = taken;
      if (made.get().ask(name, call) == refusal) fail(said(name, call) + " answered " + refusal + ", but it is to be taken");
    }
    for (int outside : new int[] {leastAndMost[0] - 1, leastAndMost[1] + 1, Integer.MIN_VALUE, Integer.MAX_VALUE}) {
      int[] call = args.clone();
      call[place] = outside;
      unchanged(made, refusal, name, call);
    }
  }

  /** All that can be asked is alike, also once things are undone, once slots are restored, and once the tape is read. */
  void like(Run twin, String when) {
    both(twin, when, "place");
    likeButForPlace(twin, when);
  }

  void likeButForPlace(Run twin, String when) {
    alike(twin, when);
    for (int i = 0; i < 2 && both(twin, when, "undo") == 1; i++) alike(twin, when + ", undone");
    for (int slot = 0; slot < 3; slot++) if (both(twin, when, "restore", slot) == 1) alike(twin, when + ", restored " + slot);
    both(twin, when, "read");
    both(twin, when, "place");
    alike(twin, when + ", read");
  }

  private long both(Run twin, String when, String name, int... args) {
    long got = ask(name, args);
    long want = twin.ask(name, args);
    if (got != want) fail(when + ": " + said(name, args) + " answered " + got + ", due is " + want);
    return got;
  }

  private void alike(Run twin, String when) {
    List<Long> got = all();
    List<Long> want = twin.all();
    if (!got.equals(want)) fail(when + ": all that can be asked is " + got + ", due is " + want);
  }

  private List<Long> all() {
    List<Long> answers = new ArrayList<>();
    for (int what = 0; what <= 16; what++) answers.add(ask("count", what));
    long things = answers.get(0), seats = answers.get(1), told = answers.get(11);
    for (int thing = 0; thing < things; thing++) for (int what = 0; what <= 3; what++) answers.add(ask("thing", thing, what));
    for (int seat = 0; seat < seats; seat++) {
      for (int what = 0; what <= 6; what++) answers.add(ask("seat", seat, what));
      for (int thing = 0; thing < things; thing++) for (int what = 0; what <= 1; what++) answers.add(ask("loan", seat, thing, what));
    }
    for (int k = 1; k <= told; k++) answers.add(ask("stands", k));
    return answers;
  }

  // ---- scenes

  /**
   * At 10 and 11, and again from 24 on, all is SEEN from both SEATS; from 12 to 23 only s SEES b, the only one that is near.
   * From 2 a is SEEN at 13 and b at 7, from 15 a at 7 and b at 1.
   */
  static final String NOON = "thing a 10 5; thing b 4 1; seat s 2 100; seat u 15 50; heat = if hour < 12 then 12 else 3; "
      + "moved = 3; rent = tall + lent / 10; interest = 10; grace 3; begins 10;";

  /** Something of all that can be changed: loans, hours, a moved SEAT, what is TOLD, held and on the tape. It is 11; s is at 3. */
  static Run busy() {
    return of(NOON).done("lend", 0, 0, 10).done("hold", 1).done("lend", 1, 1, 20).done("hours", 1).done("move", 0, 3)
        .done("tell", 1, 5, 2).done("tell", 2, -1, 0).feed("seat q 1 7; seed 3; ");
  }
}
