import java.lang.reflect.Method;
import java.lang.reflect.Modifier;
import java.util.Set;
import java.util.TreeSet;
import java.util.regex.Matcher;
import java.util.regex.Pattern;

/** The sentences that name no bound, a test for each: the face, the grammar's words, what goes into each LAW, LOT, how an HOUR goes. */
public final class SentencesTest {
  private static final String[] LAWS = {"heat", "seen", "moved", "rent", "interest"};
  private static final String[] VARS = {"hour", "day", "warm", "far", "tall", "across", "lent", "side", "at"};

  public static void main(String[] args) {
    face();
    texts();
    laws();
    hours();
    Run.end();
  }

  // ---- the face

  private static void face() {
    Run.test("public final class MirageLoans { public static final int NONE = -1; public MirageLoans();", SentencesTest::noOtherMember);
    Run.test("public int count(int what); }", SentencesTest::methodsOfTheDocument);
    Run.test("what later calls answer is free.", SentencesTest::lastCall);
  }

  private static void noOtherMember() {
    Class<MirageLoans> it = MirageLoans.class;
    Run.same("public final", it.getModifiers(), Modifier.PUBLIC | Modifier.FINAL);
    Run.same("constructors", it.getDeclaredConstructors().length, 1);
    Run.same("public constructors", it.getConstructors().length, 1);
    Run.same("its parameters", it.getConstructors()[0].getParameterCount(), 0);
    Run.same("public fields", it.getFields().length, 1);
    Run.same("NONE", MirageLoans.NONE, -1);
    Run.same("public classes inside", it.getClasses().length, 0);
    Run.same("interfaces", it.getInterfaces().length, 0);
  }

  /** The methods as the document writes them, none more and none less. */
  private static void methodsOfTheDocument() {
    Set<String> asked = new TreeSet<>();
    Matcher m = Pattern.compile("public (int|boolean) (\\w+)\\(([^)]*)\\);").matcher(Run.document());
    while (m.find()) asked.add(m.group(1) + " " + m.group(2) + "(" + m.group(3).replaceAll("int \\w+", "int") + ")");
    Set<String> found = new TreeSet<>();
    for (Method one : MirageLoans.class.getDeclaredMethods()) {
      if (Modifier.isPrivate(one.getModifiers())) continue;
      found.add(one.getReturnType() + " " + one.getName() + "(" + "int, ".repeat(one.getParameterCount()).replaceAll(", $", "") + ")");
      for (Class<?> type : one.getParameterTypes()) Run.same(one + " takes ints", type == int.class ? 1 : 0, 1);
      Run.same(one + " is of the object", one.getModifiers(), Modifier.PUBLIC);
    }
    Run.same("the document's face", asked.size(), 37);
    Run.same("the face is " + found, found.equals(asked) ? 1 : 0, 1);
  }

  private static void lastCall() {
    Run x = Run.of("thing a 3 1; seat s 3 9; heat = 9;").due(8, "lend", 0, 0, 1);
    while (x.calls() < 510) x.done("hours", 1);
    x.due(8 + x.calls() - 5, "seat", 0, 1).due(1, "undo");
  }

  // ---- texts

  private static void texts() {
    Run.test("SIGNS ; = + - * / < ( ) .", SentencesTest::everyByteAsASign);
    Run.test("TELL: 'thing' NAME INT INT ';' | 'seat' NAME INT INT ';' | ('heat' | 'seen' | 'moved' | 'rent' | 'interest') LAW ';' | "
        + "'grace' INT ';' | 'winds' INT ';' | 'begins' INT ';' | 'seed' INT ';'.", SentencesTest::everyTell);
    Run.test("VAR: 'hour' | 'day' | 'warm' | 'far' | 'tall' | 'across' | 'lent' | 'side' | 'at'.", SentencesTest::everyVar);
    Run.test("The last n bytes of the tape go: how many it has.", SentencesTest::lastBytesGo);
  }

  private static void everyByteAsASign() {
    for (int b = 0; b < 256; b++) {
      String text = "heat = 1" + (char) b + "1;";
      boolean goesOn = b >= '0' && b <= '9' || "+-*/".indexOf(b) >= 0;
      // behind a blank, or behind an end, it is the second 1 that does not go on
      boolean isAhead = b == 9 || b == 10 || b == 13 || b == 32 || b == ';';
      if (goesOn) Run.right(text);
      else Run.fault(1, isAhead ? 9 : 8, text);
    }
    Run.right("heat=if(1)<2then(3+4)*5/6-7else(8);");
    Run.fault(1, 8, "heat = 1.;");
  }

  /** Each TELL is one; so it is behind another; without its last TOKENS it ends too soon; with another TOKEN it does not go on. */
  private static void everyTell() {
    String[] tells = {"thing a 1 2 ;", "seat a 1 2 ;", "heat = 1 ;", "seen = 1 ;", "moved = 1 ;", "rent = 1 ;", "interest = 1 ;", "grace 1 ;",
        "winds 1 ;", "begins 1 ;", "seed 1 ;", "rent = if 1 < 2 then 3 else if 4 < 5 then 6 else 7 ;", "moved = ( ( 1 ) + 2 * 3 - 4 / 5 ) ;"};
    for (String tell : tells) {
      Run.right(tell);
      Run.right("seed 5 ;" + tell + "thing b 0 9 ;");
      String[] tokens = tell.split(" ");
      int at = 0;
      for (String token : tokens) {
        Run.fault(at == 0 ? 0 : 1, at == 0 ? -1 : at, tell.substring(0, at));
        for (String other : new String[] {"!", "abcdefghi", "12345", "text", "NAME"}) {
          if (!(other.equals("text") && token.equals("a"))) Run.fault(1, at, tell.substring(0, at) + other + tell.substring(at + token.length()));
        }
        at += token.length() + 1;
      }
    }
    Run.fault(1, 0, ";");
    Run.fault(1, 13, "thing a 1 2 ;;");
  }

  /** A VAR is a UNIT everywhere in a LAW; the other words in quotes are none, nor is a NAME. */
  private static void everyVar() {
    for (String var : VARS) {
      Run.right("heat = " + var + ";");
      Run.right("seen = if " + var + " < (" + var + ") then 1 * " + var + " - " + var + " else " + var + " / " + var + ";");
      Run.fault(1, 6, "thing " + var + " 1 1;");
      Run.fault(1, 5, "seat " + var + " 1 1;");
      Run.fault(1, 0, var + " = 1;");
    }
    for (String word : new String[] {"thing", "seat", "heat", "seen", "moved", "rent", "interest", "grace", "winds", "begins", "seed", "then", "else"}) {
      Run.fault(1, 7, "rent = " + word + ";");
      Run.fault(1, 6, "thing " + word + " 1 1;");
    }
    for (String name : new String[] {"a", "x", "name", "law", "lot", "text", "hours", "hou", "things", "abcdefgh"}) {
      Run.fault(1, 7, "rent = " + name + ";");
      Run.right("thing " + name + " 1 1;");
    }
  }

  private static void lastBytesGo() {
    Run x = new Run().feed("seed 1;thing a 3 4;zzz").due(22, "count", 9).due(19, "back", 3).due(19, "back", 0).due(7, "back", 12).due(7, "count", 9);
    x.feed("thing b 5 6;!").due(19, "back", 1).due(0, "read").due(1, "count", 0).due(5, "thing", 0, 0).due(6, "thing", 0, 1);
  }

  // ---- what goes into each LAW

  private static void laws() {
    Run.test("hour (of the day), day for all.", SentencesTest::hourAndDay);
    Run.test("Of an X from which one looks and a THING (warm: the HEAT of the hour;", SentencesTest::warmOfTheHour);
    Run.test("tall, across: the THING's TALL, X;", SentencesTest::theThingsOwn);
    Run.test("at: from which X one looks):", SentencesTest::fromWhichX);
    Run.test("LOT n of a SEED and a which: h is the SEED; for each of 119, which: h becomes (h and it, each bit of which is in just one) times "
        + "1103515245 and 12345 more, then h and h moved 15 bits down (zeros come in), likewise; the rest of h, moved 1 bit down likewise, by n",
        SentencesTest::lots);
  }

  /** What a VAR is at 13 on the second day, warm 20, from X 3, of a THING of TALL 5 at X 10, of which 40 are lent. */
  private static int value(String law, String var) {
    boolean ofThing = law.equals("seen") || law.equals("moved") || law.equals("rent");
    boolean warm = ofThing || law.equals("interest");
    switch (var) {
      case "hour": return 13;
      case "day": return 1;
      case "warm": return warm ? 20 : 0;
      case "lent": return law.equals("rent") || law.equals("interest") ? 40 : 0;
      case "far": return ofThing ? 7 : 0;
      case "tall": return ofThing ? 5 : 0;
      case "across": return ofThing ? 10 : 0;
      case "side": return ofThing ? 1 : 0;
      default: return ofThing ? 3 : 0;
    }
  }

  /** More than 0 if the VAR is the value, else not. */
  private static String isJust(String var, int value) {
    String less = "(" + var + " - " + value + ")";
    return "1 - " + less + " * " + less + ";";
  }

  private static Run scene(String law, String told) {
    return Run.of("thing a 10 5; seat s 3 99; begins 13; heat = 20; " + law + " = " + told).done("hours", 24);
  }

  /** What each LAW tells by hand, in HOURS that go by, and where what would be is asked for. */
  private static void told(String law, String var, int value) {
    boolean isSo = value == value(law, var);
    int so = isSo ? 1 : 0;
    Run x = scene(law, isJust(var, value));
    switch (law) {
      case "heat": x.due(so, "tells", 0, 0, 0, 0).due(so, "count", 15).due(so, "heatIn", 0); break;
      case "seen": x.due(isSo ? 10 : -2, "sight", 3, 0, 0).due(so, "seat", 0, 2).due(so, "longFrom", 3, 0, 1).due(isSo ? 98 : -2, "lend", 0, 0, 1); break;
      case "moved": x.due(10 + (isSo ? 1 : Math.max(-9, 1 - (value - value(law, var)) * (value - value(law, var)))), "sight", 3, 0, 0); break;
      case "rent":
        x.due(so, "tells", 2, 3, 0, 40).due(so, "worth", 0, 0, 40, 1).due(59, "lend", 0, 0, 40).due(38, "hours", 1).due(so, "seat", 0, 6);
        break;
      default: x.due(so, "tells", 3, 3, 0, 40);
    }
  }

  private static void eachLaw(String... vars) {
    for (String law : LAWS)
      for (String var : vars)
        for (int more = 0; more < 3; more++) told(law, var, value(law, var) + more);
  }

  private static void hourAndDay() {
    eachLaw("hour", "day");
    // the hour of the day and the day go on behind midnight, where each hour that would be has its own
    Run x = Run.of("begins 22; heat = hour + 24 * day;").due(22, "heatIn", 0).due(23, "heatIn", 1).due(24, "heatIn", 2).due(70, "heatIn", 48);
    x.due(46, "hours", 24).due(46, "count", 15).due(47, "heatIn", 1);
  }

  private static void warmOfTheHour() {
    eachLaw("warm");
    // the HEAT of the hour that is looked at, not of the one that it is now
    Run x = Run.of("thing a 10 5; seat s 10 99; heat = hour; seen = warm - 3; moved = warm; rent = warm; interest = warm * 10; begins 2;");
    x.due(-2, "sight", 10, 0, 0).due(-2, "sight", 10, 0, 1).due(14, "sight", 10, 0, 2).due(19, "sight", 10, 0, 12);
    x.due(4, "hours", 2).due(49, "lend", 0, 0, 50).due(7, "hours", 3).due(4 + 5 + 6, "seat", 0, 6).due(70, "tells", 3, 0, 0, 50);
    // it is held to 99 ahead of other LAWS
    Run.of("thing a 10 5; heat = 1000; seen = 100 - warm; interest = warm / 9;").due(10, "sight", 0, 0, 0).due(11, "tells", 3, 0, 0, 1);
    Run.of("thing a 10 5; heat = 0 - 50; seen = 1 + warm;").due(10, "sight", 0, 0, 0);
  }

  private static void theThingsOwn() {
    eachLaw("tall", "across", "far", "side", "lent");
    Run x = Run.of("thing a 10 5; thing b 4 9; seen = 1; moved = tall - 4; rent = across * 9;");
    x.due(11, "sight", 0, 0, 0).due(9, "sight", 0, 1, 0).due(90, "tells", 2, 0, 0, 0).due(36, "tells", 2, 0, 1, 0);
  }

  private static void fromWhichX() {
    eachLaw("at");
    Run x = Run.of("thing a 10 5; seat s 6 9; seen = 1; rent = at;");
    for (int from = 0; from < 20; from++) x.due(from, "tells", 2, from, 0, 0);
    // a SEAT looks from where it is now
    x.due(8, "lend", 0, 0, 1).due(1, "hours", 1).due(6, "seat", 0, 6).due(1, "move", 0, 17).due(2, "hours", 1).due(23, "seat", 0, 6);
  }

  /** SEED, hour and LOT, reckoned apart from any Java. */
  private static final int[][] LOTS = {{0, 0, 66}, {0, 1, 51}, {0, 5, 44}, {0, 23, 43}, {0, 24, 56}, {0, 47, 63}, {1, 0, 59}, {1, 1, 72},
      {1, 24, 1}, {1, 47, 70}, {7, 0, 88}, {7, 1, 23}, {7, 24, 93}, {119, 0, 71}, {119, 1, 56}, {119, 47, 2}, {9999, 0, 44}, {9999, 1, 95},
      {9999, 23, 47}, {9999, 24, 83}, {9999, 47, 76}};

  private static void lots() {
    for (int[] lot : LOTS)
      for (int more = 0; more < 2; more++)
        Run.of("seed " + lot[0] + "; winds " + (lot[2] + more) + ";").due(lot[1], "hours", lot[1]).due(more, "count", 13);
    // counted on: at 100 it is another LOT than at 4, the same hour of the day
    Run.of("seed 7; winds 29;").done("hours", 48).done("hours", 48).due(100, "hours", 4).due(0, "count", 13);
    Run.of("seed 7; winds 30;").done("hours", 48).done("hours", 48).due(100, "hours", 4).due(1, "count", 13);
  }

  // ---- how an HOUR goes, and what is done by hand

  private static void hours() {
    Run.test("after how many hours on end a loan on what is not seen is gone,", SentencesTest::hoursOnEnd);
    Run.test("AN HOUR: SEAT by SEAT, THING by THING on which it lent:", SentencesTest::seatBySeat);
    Run.test("it CALLS a loan: it gets what is lent back, if it SEES the THING (likewise), and that is over;", SentencesTest::calls);
    Run.test("a SEAT is MOVED to another X; HOURS go by.", SentencesTest::movedAndHours);
    Run.test("14 RENT of all so far, 15 HEAT now,", SentencesTest::rentOfAll);
  }

  private static void hoursOnEnd() {
    // not seen in two of three hours: never for three on end
    Run x = Run.of("thing a 5 1; seat s 5 9; seen = 1 - (hour - hour / 3 * 3); grace 3;").due(4, "lend", 0, 0, 5);
    x.due(48, "hours", 48).due(5, "loan", 0, 0, 0).due(0, "count", 8).due(2, "loan", 0, 0, 1);
    Run y = Run.of("thing a 5 1; seat s 5 9; seen = 1 - (hour - hour / 3 * 3); grace 2;").due(4, "lend", 0, 0, 5);
    y.due(2, "hours", 2).due(1, "loan", 0, 0, 1).due(3, "hours", 1).due(-2, "loan", 0, 0, 0).due(1, "count", 8).due(5, "count", 7);
  }

  private static void seatBySeat() {
    // each loan goes through the hour by itself: s SEES both, u SEES none of its two, v lent on nothing
    Run x = Run.of("thing a 3 2; thing b 5 7; seat s 4 50; seat u 4 50; seat v 4 50; heat = 2; rent = tall + lent; interest = 50; grace 2;");
    x.due(45, "lend", 0, 0, 5).due(34, "lend", 0, 1, 11).due(40, "lend", 1, 0, 10).due(19, "lend", 1, 1, 21).due(1, "move", 1, 19);
    x.due(1, "hours", 1).due(34 + 7 + 18, "seat", 0, 1).due(25, "seat", 0, 6).due(19, "seat", 1, 1).due(0, "seat", 1, 6).due(50, "seat", 2, 1);
    x.due(5, "loan", 0, 0, 0).due(11, "loan", 0, 1, 0).due(15, "loan", 1, 0, 0).due(31, "loan", 1, 1, 0).due(1, "loan", 1, 1, 1);
    x.due(2, "hours", 1).due(50, "seat", 0, 6).due(2, "seat", 1, 5).due(0, "seat", 0, 5).due(2, "count", 8).due(2, "count", 5).due(16, "count", 6);
  }

  private static void calls() {
    // a WIND all the time, which is not looked at by hand; INTEREST of it comes back, too
    Run x = Run.of("thing a 3 2; thing b 4 2; seat s 3 50; heat = 5; winds 100; interest = 30;").due(40, "lend", 0, 0, 10).due(20, "lend", 0, 1, 20);
    x.due(2, "hours", 2).due(16, "call", 0, 0).due(36, "seat", 0, 1).due(-2, "loan", 0, 0, 0).due(33, "loan", 0, 1, 0).due(2, "seat", 0, 3);
    x.due(-2, "call", 0, 0).due(0, "count", 8).due(33, "count", 6);
    // once it is over, it can be lent on anew, unseen for no hour yet
    x.due(30, "lend", 0, 0, 6).due(6, "loan", 0, 0, 0).due(0, "loan", 0, 0, 1).due(2, "loan", 0, 1, 1);
    x.due(1, "move", 0, 19).due(-2, "call", 0, 0).due(6, "loan", 0, 0, 0).due(1, "move", 0, 0).due(6, "call", 0, 0);
  }

  private static void movedAndHours() {
    Run x = Run.of("thing a 3 2; seat s 3 50; seat u 9 50; heat = 5;").due(3, "seat", 0, 0).due(1, "move", 0, 12).due(12, "seat", 0, 0);
    x.due(9, "seat", 1, 0).due(0, "count", 2).due(0, "seat", 0, 2).due(1, "move", 1, 12).due(12, "seat", 1, 0).due(1, "move", 0, 4);
    x.due(1, "seat", 0, 2).due(3, "thing", 0, 0).due(5, "hours", 5).due(4, "seat", 0, 0).due(5, "count", 2);
  }

  private static void rentOfAll() {
    Run x = Run.of("thing a 3 2; thing b 4 7; seat s 3 50; seat u 3 50; heat = 9 + hour;").due(49, "lend", 0, 0, 1).due(48, "lend", 0, 1, 1)
        .due(49, "lend", 1, 1, 1).due(0, "count", 14).due(9, "count", 15);
    x.due(2, "hours", 2).due(18, "seat", 0, 6).due(14, "seat", 1, 6).due(32, "count", 14).due(11, "count", 15).due(1, "call", 0, 0);
    x.due(32, "count", 14).due(3, "hours", 1).due(46, "count", 14).due(1, "undo").due(32, "count", 14);
  }
}
