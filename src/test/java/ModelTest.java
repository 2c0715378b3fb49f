import java.lang.reflect.Method;
import java.util.ArrayList;
import java.util.Arrays;
import java.util.List;
import java.util.Random;

/** Random runs of calls, each answered by the class and by the Model, which must agree. */
public final class ModelTest {
  private static final int RUNS = 1500;
  private static final int CALLS = 400;

  /** The method and, for each argument, what is drawn for it; the number ahead of it is how often it is called. */
  private static final String[] CALLS_TO_DRAW = {
    "1 feed i i i i i", "1 back b", "1 read", "1 place", "2 thing t w", "3 seat s w", "3 loan s t w", "3 tells w x t c",
    "16 lend s t c", "4 call s t", "6 move s x", "10 hours n", "5 undo", "3 sight x t n", "4 clash w", "2 longFrom x t n",
    "2 best t n w", "2 dawns x t", "2 near x w", "2 crowd x", "2 rich n w", "2 umbrellas k o", "4 worth s t c n",
    "2 book s n", "4 hidden x x k9", "2 cool", "1 heatIn n", "3 lentIn s t n", "3 year s t n y", "1 tell x a d", "0 forget",
    "2 stands k20", "3 sure k20 w", "2 look k20 d", "2 hold o", "1 restore o", "8 count c17",
  };

  private final Random random;
  private final int run;
  private final MirageLoans it = new MirageLoans();
  private final Model model = new Model();
  private final List<String> said = new ArrayList<>();
  private int wrong = 0;
  private final int[] secret;

  private ModelTest(int run) { this.run = run; this.random = new Random(run); this.secret = new int[] {any(20), 1 + any(9)}; }

  private int any(int n) { return random.nextInt(n); }
  private boolean odds(int of100) { return any(100) < of100; }

  private int draw(String sort) {
    if (odds(2)) return new int[] {-1, -2, Integer.MIN_VALUE, Integer.MAX_VALUE, 20, 49, 25, 1000, 6, 21}[any(10)];
    switch (sort) {
      case "i": return 0x20202020;
      case "b": return any(30) - 2;
      case "t": case "s": return odds(85) ? any(3) : any(8) - 1;
      case "w": return odds(70) ? any(3) : any(9) - 1;
      case "x": return any(20);
      case "a": return odds(30) ? -1 : any(20);
      case "c": return odds(60) ? 1 + any(40) : any(1002) - 1;
      case "n": return odds(70) ? any(6) : any(50);
      case "d": return any(25);
      case "k": return 1 + any(3);
      case "o": return any(5) - 1;
      case "y": return 1 + any(20);
      case "k9": return 1 + any(9);
      case "k20": return odds(60) ? any(4) : any(21);
      default: return any(18);
    }
  }

  private Object ask(Object who, String name, int[] args) {
    Class<?>[] types = new Class<?>[args.length];
    Object[] boxed = new Object[args.length];
    for (int i = 0; i < args.length; i++) { types[i] = int.class; boxed[i] = args[i]; }
    try {
      Method m = who.getClass().getMethod(name, types);
      return m.invoke(who, boxed);
    } catch (java.lang.reflect.InvocationTargetException e) {
      return "threw " + e.getCause();
    } catch (ReflectiveOperationException e) {
      return "has no such method: " + e;
    }
  }

  private void both(String name, int... args) {
    Object got = ask(it, name, args);
    Object want = ask(model, name, args);
    String call = name + Arrays.toString(args);
    said.add(call + " = " + want);
    if (!got.equals(want)) {
      wrong++;
      if (wrong == 1) for (String line : said) System.out.println("  " + line);
      System.out.println("run " + run + ": " + call + " answered " + got + ", due is " + want);
    }
  }

  private void tellText(String text) {
    said.add(text);
    StringBuilder padded = new StringBuilder(text);
    while (padded.length() % 20 != 0) padded.append(' ');
    for (int at = 0; at < padded.length(); at += 20) {
      int[] words = new int[5];
      for (int i = 0; i < 20; i++) words[i / 4] = words[i / 4] << 8 | padded.charAt(at + i) & 255;
      both("feed", words);
    }
    both("back", padded.length() - text.length());
    both("read");
    both("place");
  }

  // ---- texts

  private static final String[] VARS = {"hour", "day", "warm", "far", "tall", "across", "lent", "side", "at"};
  private static final String[] LAWS = {"heat", "seen", "moved", "rent", "interest"};

  private String gap() { return odds(80) ? " " : odds(50) ? "" : new String[] {"\t", "\n", "\r", "  "}[any(4)]; }

  private String unit(int depth) {
    if (odds(15) && depth < 7) return "(" + gap() + sum(depth + 1) + gap() + ")";
    return odds(55) ? VARS[any(9)] : "" + (odds(70) ? any(13) : odds(80) ? any(100) : any(10000));
  }
  private String product(int depth) {
    String all = unit(depth);
    while (odds(25)) all += gap() + (odds(60) ? "*" : "/") + gap() + unit(depth);
    return all;
  }
  private String sum(int depth) {
    String all = product(depth);
    while (odds(30)) all += gap() + (odds(50) ? "+" : "-") + gap() + product(depth);
    return all;
  }
  private String law() {
    String all = "";
    int ifs = odds(50) ? 0 : odds(98) ? any(4) : 4 + any(2);
    for (int i = 0; i < ifs; i++) all += "if " + sum(0) + gap() + "<" + gap() + sum(0) + " then " + sum(0) + " else ";
    return all + sum(0);
  }
  /** Laws by which there is enough to be seen, moved and lent on. */
  private String mildLaw(String law) {
    switch (law) {
      case "heat": return new String[] {"hour * 2", "if hour < 12 then hour * 2 else 48 - hour * 2", "20 - hour / (day + 1)", "30"}[any(4)];
      case "seen": return new String[] {"warm - far", "warm - far * 2 + tall", "warm + tall - across - 5 * side", "tall * 3 - far", "20 - hour", "warm - far - lent * 9"}[any(6)];
      case "moved": return new String[] {"warm / 4", "far / 2 - 3", "3 - tall", "side * 4 - 2", "at - across"}[any(5)];
      case "rent": return new String[] {"tall + lent / 10", "99", "far + 1", "lent"}[any(4)];
      default: return new String[] {"10", "warm", "lent / 2", "99"}[any(4)];
    }
  }
  private String text() {
    List<String> tells = new ArrayList<>();
    int things = odds(97) ? 1 + any(6) : any(9);
    int seats = odds(97) ? 1 + any(6) : any(9);
    for (int i = 0; i < things; i++)
      tells.add("thing" + " t" + (char) ('a' + i) + " " + (odds(99) ? any(20) : any(30)) + " " + (odds(99) ? 1 + any(9) : any(12)));
    for (int i = 0; i < seats; i++)
      tells.add("seat" + " s" + (char) ('a' + i) + gap() + (odds(99) ? any(20) : any(30)) + " " + (odds(99) ? any(1000) : any(2000)));
    for (String law : LAWS) {
      if (odds(70)) tells.add(law + gap() + "=" + gap() + (odds(70) ? mildLaw(law) : law()));
    }
    if (odds(20)) tells.add(LAWS[any(5)] + "=" + law());
    if (odds(70)) tells.add("grace " + (odds(98) ? 1 + any(9) : any(103)));
    if (odds(70)) tells.add("winds " + (odds(95) ? any(50) : any(103)));
    if (odds(60)) tells.add("begins " + (odds(98) ? any(24) : any(26)));
    if (odds(60)) tells.add("seed " + any(10000));
    java.util.Collections.shuffle(tells, random);
    StringBuilder all = new StringBuilder();
    for (String one : tells) all.append(one).append(gap()).append(";").append(gap());
    return all.length() > 2000 ? all.substring(0, 2000) : all.toString();
  }
  private static final String[] BITS = {";", "=", "+", "-", "*", "/", "<", "(", ")", ".", "thing", "seat", "if", "then", "else",
      "abcdefghi", "ta", "sa", "12345", "0000", "7", "A", "\u00e9", "\u0000", " ", "hour", "seed 1;", "((((((", "grace", "heat = 1;"};

  /** What lies at the edges of ROOM, TWICE and WRONG, within them or just outside. */
  private String edge() {
    switch (any(6)) {
      case 0: return (odds(50) ? "thing" : "seat") + (odds(50) ? " ta " : " new ") + any(22) + " " + any(12) + ";";
      case 1: return "rent = " + "1+(".repeat(5 + any(3)) + "1" + ")".repeat(6) + ";";
      case 2: return "seen = " + "if hour<day then 1 else ".repeat(3 + any(3)) + "far;";
      case 3: return new String[] {"grace ", "winds ", "begins ", "seed "}[any(4)] + new int[] {0, 1, 23, 24, 99, 100, 101, 9999}[any(8)] + ";";
      case 4: return "moved = (1)+((((((2))))))*(3" + (odds(50) ? ")" : "") + ";";
      default: return "heat=1" + "+1".repeat(any(200)) + ";";
    }
  }

  private String spoilt(String text) {
    StringBuilder all = new StringBuilder(text);
    if (odds(50)) return all.insert(odds(50) ? 0 : all.length(), edge()).substring(0, Math.min(all.length(), 1980));
    for (int i = 1 + any(2); i > 0; i--) {
      int at = any(all.length() + 1);
      if (odds(40) && at < all.length()) all.delete(at, Math.min(all.length(), at + 1 + any(3)));
      else all.insert(at, BITS[any(BITS.length)]);
    }
    if (odds(10)) for (int i = 60 + any(20); i > 0; i--) all.append(odds(99) ? "heat=1+2;" : "seed=3;");
    return all.length() > 1980 ? all.substring(0, 1980) : all.toString();
  }

  /** What is told by chance leaves nothing soon; of a THING that stands somewhere, something is left. */
  private void tellTruly() {
    int x = any(20), n = any(25);
    both("tell", x, model.spot(model.w.hour + n, x, secret), n);
    both("stands", model.told.size());
    both("sure", model.told.size(), any(2));
    both("look", model.told.size(), any(25));
  }

  private int go() {
    for (int i = any(3); i > 0; i--) tellText(spoilt(text()));
    tellText(text());
    List<String> hat = new ArrayList<>();
    for (String line : CALLS_TO_DRAW) {
      String rest = line.substring(line.indexOf(' ') + 1);
      for (int i = Integer.parseInt(line.substring(0, line.indexOf(' '))); i > 0; i--) hat.add(rest);
    }
    for (int i = 0; i < CALLS && wrong < 5; i++) {
      if (odds(1)) { both("forget"); continue; }
      if (odds(3)) { tellTruly(); continue; }
      String[] parts = hat.get(any(hat.size())).split(" ");
      if (parts[0].equals("read")) {
        if (odds(10)) tellText(odds(50) ? text() : spoilt(text()));
        continue;
      }
      int[] args = new int[parts.length - 1];
      for (int j = 0; j < args.length; j++) args[j] = draw(parts[j + 1]);
      both(parts[0], args);
    }
    return wrong;
  }

  public static void main(String[] args) {
    int runs = args.length > 0 ? Integer.parseInt(args[0]) : RUNS;
    int from = args.length > 1 ? Integer.parseInt(args[1]) : 0;
    int wrong = 0;
    for (int run = from; run < from + runs && wrong < 20; run++) wrong += new ModelTest(run).go();
    System.out.println(wrong == 0 ? "all answers are as due in " + runs + " runs" : wrong + " answers are not as due");
    if (wrong != 0) System.exit(1);
  }
}
