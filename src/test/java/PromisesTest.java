/** Each promise by hand: ordinary calls, the edges that the document names, and wrong ones. */
public final class PromisesTest {
  private static int wrong = 0;
  private static String promise = "";

  private static void due(String call, long got, long want) {
    if (got != want) { wrong++; System.out.println("promise " + promise + ": " + call + " answered " + got + ", due is " + want); }
  }
  private static void due(String call, boolean got, boolean want) { due(call, got ? 1 : 0, want ? 1 : 0); }

  /** Feeds a text, blanks behind it till it is of twenties, and takes those back. */
  private static void feed(MirageLoans x, String text) {
    StringBuilder all = new StringBuilder(text);
    while (all.length() % 20 != 0) all.append(' ');
    for (int at = 0; at < all.length(); at += 20) {
      int[] w = new int[5];
      for (int i = 0; i < 20; i++) w[i / 4] = w[i / 4] << 8 | all.charAt(at + i) & 255;
      x.feed(w[0], w[1], w[2], w[3], w[4]);
    }
    x.back(all.length() - text.length());
  }
  private static MirageLoans of(String text) {
    MirageLoans x = new MirageLoans();
    feed(x, text);
    due("read of " + text, x.read(), 0);
    return x;
  }
  private static void fault(String text, int number, int place) {
    MirageLoans x = new MirageLoans();
    feed(x, text);
    due("read of '" + text + "'", x.read(), number);
    due("place in '" + text + "'", x.place(), place);
  }

  /** At 10 and 11, and again from 24 on, all is SEEN from both SEATS; from 12 to 23 only s SEES b. From 2: a at 13, b at 7. From 15: a at 7, b at 1. */
  private static final String NOON = "thing a 10 5; thing b 4 1; seat s 2 100; seat u 15 50; heat = if hour < 12 then 12 else 3; "
      + "moved = 3; rent = tall + lent / 10; interest = 10; grace 3; begins 10;";
  /** WINDS at 1, 2, 3, 4, 9, 10 by seed 7. */
  private static final String WINDY = "thing a 5 2; seat s 5 100; heat = 9; rent = 1; interest = 50; winds 30; seed 7;";

  public static void main(String[] args) {
    promise = "1"; aNewObject();
    promise = "2, 3"; theTape();
    promise = "4, 5"; tokens(); grammar(); room(); twiceAndWrong(); whatReadChanges();
    promise = "6 to 9"; laws(); whatIs();
    promise = "10 to 14"; byHand(); hoursGoBy(); mostCoins(); fullHouse(); undone();
    promise = "15 to 19"; sights();
    promise = "16"; clashes();
    promise = "20, 21"; nearAndCrowd();
    promise = "22, 25, 29, 30"; booksAndYears();
    promise = "23"; umbrellas();
    promise = "24"; worths();
    promise = "26"; hiddenWays();
    promise = "27, 28"; coolAndHeat();
    promise = "31 to 35"; told();
    promise = "36, 37"; slots();
    promise = "38"; counts();
    System.out.println(wrong == 0 ? "all answers are as due" : wrong + " answers are not as due");
    if (wrong != 0) System.exit(1);
  }

  private static void aNewObject() {
    MirageLoans x = new MirageLoans();
    for (int what = 0; what <= 16; what++) due("count(" + what + ")", x.count(what), 0);
    due("place()", x.place(), -1);
    due("heatIn(23)", x.heatIn(23), 23);
    due("heatIn(24)", x.heatIn(24), 0);
    due("thing(0, 0)", x.thing(0, 0), -1);
    due("seat(0, 0)", x.seat(0, 0), -1);
    due("NONE", MirageLoans.NONE, -1);
  }

  private static void theTape() {
    MirageLoans x = new MirageLoans();
    due("back(0) of nothing", x.back(0), 0);
    due("back(1) of nothing", x.back(1), -1);
    for (int i = 1; i <= 99; i++) due("feed " + i, x.feed(0, 0, 0, 0, 0), 20 * i);
    due("back(1)", x.back(1), 1979);
    due("feed", x.feed(-1, -1, -1, -1, -1), 1999);
    due("feed beyond 2,000", x.feed(0, 0, 0, 0, 0), -1);
    due("count(9)", x.count(9), 1999);
    due("back(18)", x.back(18), 1981);
    due("feed beyond 2,000 by 1", x.feed(0, 0, 0, 0, 0), -1);
    due("back(1)", x.back(1), 1980);
    due("feed up to 2,000", x.feed(0, 0, 0, 0, 0), 2000);
    due("back(-1)", x.back(-1), -1);
    due("back(2001)", x.back(2001), -1);
    due("back(MIN)", x.back(Integer.MIN_VALUE), -1);
    due("back(2000)", x.back(2000), 0);
    // the highest byte of a comes first: "seed 1;" in its first two words
    x.feed(0x73656564, 0x20313b20, 0x20202020, 0x20202020, 0x20202020);
    due("read()", x.read(), 0);
    due("count(9) after read", x.count(9), 0);
  }

  private static void tokens() {
    fault("", 0, -1);
    fault(" \t\n\r ", 0, -1);
    fault("thing abcdefgh 1 1;", 0, -1);
    fault("thing abcdefghi 1 1;", 1, 6);
    fault("thingabc 1 1;", 1, 0);
    fault("thing a1 1;", 0, -1);
    fault("thing z 1 1; seat az 1 1; seat za 1 1;", 0, -1);
    fault("seed 0; winds 0; begins 0; grace 1;", 0, -1);
    fault("thing a 0019 0009;", 0, -1);
    fault("thing a 00019 9;", 1, 8);
    fault("seed9999;begins23;winds100;grace99;", 0, -1);
    fault("seed 99999;", 1, 5);
    fault("seed 1.;", 1, 6);
    fault("Seed 1;", 1, 0);
    fault("seed 1;\u00e9", 1, 7);
    fault("seed 1;\u0000", 1, 7);
    fault("seed 1;\u000b", 1, 7);
    for (String word : new String[] {"thing", "seat", "heat", "seen", "moved", "rent", "interest", "grace", "winds", "begins", "seed",
        "if", "then", "else", "hour", "day", "warm", "far", "tall", "across", "lent", "side", "at"})
      fault("seat " + word + " 1 1;", 1, 5);
    fault("seat iff 1 1; seat hours 1 1; seat a 1 1;", 0, -1);
  }

  private static void grammar() {
    fault("thing a 1 1", 1, 11);
    fault("thing a 1 1  ", 1, 13);
    fault("thing a 1;", 1, 9);
    fault("thing 1 1 1;", 1, 6);
    fault("a", 1, 0);
    fault(";", 1, 0);
    fault("heat 1;", 1, 5);
    fault("heat = ;", 1, 7);
    fault("heat = 1 2;", 1, 9);
    fault("heat = 1 +;", 1, 10);
    fault("heat = - 1;", 1, 7);
    fault("heat = foo;", 1, 7);
    fault("heat = (1;", 1, 9);
    fault("heat = 1);", 1, 8);
    fault("heat = ();", 1, 8);
    fault("heat = 1 < 2;", 1, 9);
    fault("heat = if 1 then 2 else 3;", 1, 12);
    fault("heat = if 1 < 2 then 3;", 1, 22);
    fault("heat = if 1 < 2 then if 1 < 2 then 3 else 4 else 5;", 1, 21);
    fault("heat = (if 1 < 2 then 3 else 4);", 1, 8);
    fault("heat = if 1 < 2 then 3 else if 2 < 3 then 4 else 5; seen=1;", 0, -1);
    fault("grace a;", 1, 6);
    fault("grace = 1;", 1, 6);
    fault("seed 1; else", 1, 8);
  }

  private static void room() {
    String six = "thing a 1 1;thing b 1 1;thing c 1 1;thing d 1 1;thing e 1 1;thing f 1 1;";
    fault(six, 0, -1);
    fault(six + "thing", 2, six.length());
    fault(six + "thing g", 2, six.length());
    fault(six + six.replace("thing", "seat").replace(" a ", " g ").replace(" b ", " h ").replace(" c ", " i ").replace(" d ", " j ")
        .replace(" e ", " k ").replace(" f ", " l "), 0, -1);
    String seats = six.replace("thing", "seat");
    fault(seats + " seat g 1 1;", 2, seats.length() + 1);
    String law = "heat = " + "if 1 < 0 then 2 else ".repeat(4);
    fault(law + "3;", 0, -1);
    fault(law + "if", 2, law.length());
    fault(law + "3; seen = if 1 < 0 then 2 else 3;", 0, -1);
    fault("heat = ((((((1))))));", 0, -1);
    fault("heat = ((((((1))))))+((((((1))))));", 0, -1);
    fault("heat = if ((((((1)))))) < ((((((1)))))) then ((((((1)))))) else ((((((1))))));", 0, -1);
    fault("heat = if 1 < 2 then (((((((1", 2, 27);
    fault("heat = (((((((1)))))));", 2, 13);
    fault("heat = (((((((", 2, 13);
    String tokens = "seed 1;".repeat(132) + "heat=";  // 398 TOKENS
    fault(tokens + "1;", 0, -1);
    fault(tokens + "1", 1, tokens.length() + 1);
    fault(tokens + "1+", 1, tokens.length() + 2);
    fault(tokens + "1+1;", 2, tokens.length() + 2);
    fault(tokens + "1 1", 1, tokens.length() + 2);
    fault(tokens + "1+;", 1, tokens.length() + 2);
    fault(tokens + "1; seed", 2, tokens.length() + 3);
    fault(tokens + "1; foo", 1, tokens.length() + 3);
    fault(tokens + "1; 12345", 1, tokens.length() + 3);
    // the first by its place: ROOM ahead of SYNTAX
    fault(six + "thing ; ;", 2, six.length());
    fault(";" + six + "thing", 1, 0);
  }

  private static void twiceAndWrong() {
    fault("thing a 1 1; thing a 1 1;", 3, 19);
    fault("thing a 1 1; seat a 1 1;", 3, 18);
    fault("seat a 1 1; seat b 1 1; thing b 1 1;", 3, 30);
    fault("thing a 20 1;", 5, 8);
    fault("thing a 1 0;", 5, 10);
    fault("thing a 1 10;", 5, 10);
    fault("seat a 20 1;", 5, 7);
    fault("seat a 1 999; seat b 19 0;", 0, -1);
    fault("seat a 1 1000;", 5, 9);
    fault("grace 0;", 5, 6);
    fault("grace 100;", 5, 6);
    fault("grace 0; grace 1;", 5, 6);
    fault("winds 101;", 5, 6);
    fault("begins 24;", 5, 7);
    fault("thing a 1 1; thing a 20 1;", 3, 19);
    fault("thing a 20 1; thing a 1 1;", 5, 8);
    fault("thing a 20 1; foo", 1, 14);
    fault("thing a 1 1; thing a 1 1; heat = (((((((", 2, 39);
  }

  private static void whatReadChanges() {
    MirageLoans x = of(NOON);
    x.lend(0, 0, 10);
    x.hold(1);
    x.tell(1, 1, 1);
    feed(x, "thing a 20 1;");
    due("read()", x.read(), 5);
    due("place()", x.place(), 8);
    due("count(9)", x.count(9), 0);
    due("count(0)", x.count(0), 2);
    due("count(10)", x.count(10), 1);
    due("count(11)", x.count(11), 1);
    due("count(12)", x.count(12), 1);
    due("loan(0, 0, 0)", x.loan(0, 0, 0), 10);
    x.hours(20);
    feed(x, "seat q 3 7; begins 5;");
    due("read()", x.read(), 0);
    due("place()", x.place(), -1);
    int[] want = {0, 1, 5, 5, 0, 0, 0, 7, 0, 0, 0, 0, 0, 0, 0, 5, 0};
    for (int what = 0; what <= 16; what++) due("count(" + what + ")", x.count(what), want[what]);
    due("undo()", x.undo(), false);
    due("restore(1)", x.restore(1), false);
    due("read() of nothing", x.read(), 0);
    due("count(1)", x.count(1), 0);
    due("count(2)", x.count(2), 0);
  }

  private static void laws() {
    // those that hold if none is told, the last one of each, and what is held to what
    MirageLoans x = of("thing a 7 4; begins 5;");
    due("HEAT", x.tells(0, 0, 0, 0), 5);
    due("SEEN: warm less far", x.sight(3, 0, 0), 7);
    due("SEEN: warm less far", x.sight(2, 0, 0), -2);
    due("MOVED", x.tells(1, 2, 0, 0), 0);
    due("RENT", x.tells(2, 2, 0, 9), 4);
    due("INTEREST", x.tells(3, 2, 0, 9), 0);
    x = of("thing a 7 4; heat = 1000; heat = 0 - 7; moved = 0 - 10; rent = 100; interest = 100;");
    due("HEAT", x.tells(0, 0, 0, 0), 0);
    due("MOVED", x.tells(1, 2, 0, 0), -9);
    due("RENT", x.tells(2, 2, 0, 0), 99);
    due("INTEREST", x.tells(3, 2, 0, 0), 99);
    x = of("thing a 7 4; heat = 100; moved = 10; rent = 0 - 1; interest = 0 - 1;");
    due("HEAT", x.tells(0, 0, 0, 0), 99);
    due("MOVED", x.tells(1, 2, 0, 0), 9);
    due("RENT", x.tells(2, 2, 0, 0), 0);
    due("INTEREST", x.tells(3, 2, 0, 0), 0);
    due("heat of parts", of("heat = 20 - 3 - 4 * 2 / 3 * 2;").heatIn(0), 13);
    due("towards 0", of("heat = (0 - 7) / 2 + 10;").heatIn(0), 7);
    due("nested", of("heat = ((1 + 2) * (3 + 4));").heatIn(0), 21);
    due("32 bits", of("heat = 9999 * 9999 * 43 / 9999 / 999;").heatIn(0), 0);
    due("32 bits", of("heat = 0 - (9999 * 9999 * 43 / 9999 / 999);").heatIn(0), 0);
    due("32 bits", of("heat = 0 - (9999 * 9999 * 22 / 9999 / 999);").heatIn(0), 99);
    // the first if that holds; what is not looked at may be divided by 0
    due("first if", of("heat = if 1 < 2 then 3 else if 1 < 2 then 4 else 5;").heatIn(0), 3);
    due("second if", of("heat = if 2 < 2 then 3 else if 1 < 2 then 4 else 5;").heatIn(0), 4);
    due("no if", of("heat = if 2 < 2 then 3 else if 3 < 2 then 4 else 5;").heatIn(0), 5);
    due("by 0, not looked at", of("heat = if 1 < 2 then 3 else if 1 / 0 < 2 then 4 else 5 / 0;").heatIn(0), 3);
    due("by 0, looked at", of("heat = if 1 < 2 then 3 / 0 + 5 else 6;").heatIn(0), 0);
    due("by 0, looked at", of("heat = if 5 < 2 / 0 then 3 else 6;").heatIn(0), 0);
    due("by 0, looked at", of("heat = 7 + 0 * (3 / (2 - 2));").heatIn(0), 0);
    // VARS, and those that are not told for a LAW
    x = of("thing a 9 4; heat = 40 + hour + day + warm + far + tall + across + lent + side + at; begins 3;");
    due("heatIn(0)", x.heatIn(0), 43);
    due("heatIn(22)", x.heatIn(22), 42);
    due("heatIn(45)", x.heatIn(45), 42);
    x = of("thing a 9 4; heat = 30; interest = warm + lent + 7 * (far + tall + across + side + at) + hour; begins 3;");
    due("INTEREST", x.tells(3, 1, 0, 20), 53);
    x = of("thing a 9 4; heat = 30; rent = lent; moved = lent + 2; seen = if lent < 1 then 1 else 0;");
    due("RENT", x.tells(2, 1, 0, 20), 20);
    due("MOVED", x.tells(1, 1, 0, 20), 2);
    due("SEEN", x.sight(1, 0, 0), 11);
    String[] vars = {"hour", "day", "warm", "far", "tall", "across", "lent", "side", "at"};
    int[] from2 = {3, 1, 33, 7, 4, 9, 20, 1, 2};
    int[] from12 = {3, 1, 33, 3, 4, 9, 20, 0, 12};
    int[] from9 = {3, 1, 33, 0, 4, 9, 20, 0, 9};
    for (int i = 0; i < 9; i++) {
      x = of("thing a 9 4; heat = 33; rent = " + vars[i] + "; begins 3;");
      x.hours(24);
      due("RENT " + vars[i], x.tells(2, 2, 0, 20), from2[i]);
      due("RENT " + vars[i], x.tells(2, 12, 0, 20), from12[i]);
      due("RENT " + vars[i], x.tells(2, 9, 0, 20), from9[i]);
    }
  }

  private static void whatIs() {
    MirageLoans x = of(NOON);
    due("thing(0, 0)", x.thing(0, 0), 10);
    due("thing(1, 1)", x.thing(1, 1), 1);
    due("thing(1, 2)", x.thing(1, 2), 3);
    due("thing(1, 3)", x.thing(1, 3), 0);
    due("seat(1, 0)", x.seat(1, 0), 15);
    due("seat(1, 1)", x.seat(1, 1), 50);
    due("seat(1, 2)", x.seat(1, 2), 3);
    due("lend", x.lend(1, 1, 20), 30);
    due("lend", x.lend(1, 0, 30), 0);
    due("thing(1, 3)", x.thing(1, 3), 2);
    due("seat(1, 3)", x.seat(1, 3), 3);
    due("seat(1, 4)", x.seat(1, 4), 50);
    x.hours(2);
    due("seat(1, 2)", x.seat(1, 2), 0);
    due("thing(0, 2)", x.thing(0, 2), 0);
    due("thing(1, 2)", x.thing(1, 2), 1);
    due("seat(1, 6)", x.seat(1, 6), 2 * (8 + 3));
    due("seat(1, 1)", x.seat(1, 1), 22);
    x.hours(1);
    due("loan(1, 0, 0)", x.loan(1, 0, 0), 33);
    due("loan(1, 0, 1)", x.loan(1, 0, 1), 1);
    due("loan(1, 1, 0)", x.loan(1, 1, 0), 22);
    due("loan(0, 1, 0)", x.loan(0, 1, 0), -2);
    due("loan(0, 1, 2)", x.loan(0, 1, 2), -1);
    due("loan(1, 1, -1)", x.loan(1, 1, -1), -1);
    due("loan(2, 1, 0)", x.loan(2, 1, 0), -1);
    due("loan(1, 2, 0)", x.loan(1, 2, 0), -1);
    due("loan(-1, 1, 0)", x.loan(-1, 1, 0), -1);
    x.hours(2);
    due("seat(1, 5)", x.seat(1, 5), 2);
    due("seat(1, 3)", x.seat(1, 3), 0);
    for (int bad : new int[] {-1, 2, Integer.MAX_VALUE, Integer.MIN_VALUE}) {
      due("thing(bad)", x.thing(bad, 0), -1);
      due("seat(bad)", x.seat(bad, 0), -1);
      due("tells(bad thing)", x.tells(1, 0, bad, 0), -100);
    }
    due("thing(0, 4)", x.thing(0, 4), -1);
    due("thing(0, -1)", x.thing(0, -1), -1);
    due("seat(0, 7)", x.seat(0, 7), -1);
    due("seat(0, -1)", x.seat(0, -1), -1);
    due("tells(4)", x.tells(4, 0, 0, 0), -100);
    due("tells(-1)", x.tells(-1, 0, 0, 0), -100);
    due("tells(1, 20)", x.tells(1, 20, 0, 0), -100);
    due("tells(2, -1)", x.tells(2, -1, 0, 0), -100);
    due("tells(2, n 1000)", x.tells(2, 0, 0, 1000), -100);
    due("tells(2, n 999)", x.tells(2, 0, 0, 999), 99);
    due("tells(2, n -1)", x.tells(2, 0, 0, -1), -100);
    due("tells(3, n -1)", x.tells(3, 0, 0, -1), -100);
    due("tells(3, n 1000)", x.tells(3, 0, 0, 1000), -100);
    for (int free : new int[] {-1, 999, 1000, Integer.MAX_VALUE, Integer.MIN_VALUE}) {
      due("tells(0), n not looked at", x.tells(0, 0, 0, free), 3);
      due("tells(1), n not looked at", x.tells(1, 0, 0, free), 3);
      due("tells(1), n not looked at, bad X", x.tells(1, 20, 0, free), -100);
      due("tells(4), n not looked at", x.tells(4, 0, 0, free), -100);
    }
    due("tells(0, -5, 77, 0)", x.tells(0, -5, 77, 0), 3);
    due("tells(3, -5, 77, 0)", x.tells(3, -5, 77, 0), 10);
  }

  private static void byHand() {
    MirageLoans x = of(NOON);
    due("lend all", x.lend(0, 0, 100), 0);
    due("lend, no COINS", x.lend(0, 1, 1), -2);
    due("lend again", x.lend(0, 0, 1), -2);
    due("lend 0", x.lend(1, 0, 0), -1);
    due("lend 1000", x.lend(1, 0, 1000), -1);
    due("lend 51", x.lend(1, 0, 51), -2);
    due("lend -1", x.lend(1, 0, -1), -1);
    due("lend(2)", x.lend(2, 0, 1), -1);
    due("lend(-1)", x.lend(-1, 0, 1), -1);
    due("lend on 2", x.lend(0, 2, 1), -1);
    due("count(10)", x.count(10), 1);
    due("call", x.call(0, 0), 100);
    due("call again", x.call(0, 0), -2);
    due("call(2)", x.call(2, 0), -1);
    due("call on -1", x.call(0, -1), -1);
    due("count(10)", x.count(10), 2);
    due("lend", x.lend(0, 0, 10), 90);
    x.hours(2);
    due("call unseen", x.call(0, 0), -2);
    due("lend unseen", x.lend(1, 0, 1), -2);
    due("move near", x.move(0, 9), true);
    due("move there", x.move(0, 9), false);
    due("move to 20", x.move(0, 20), false);
    due("move to -1", x.move(0, -1), false);
    due("move(2)", x.move(2, 1), false);
    due("move(-1)", x.move(-1, 1), false);
    due("call", x.call(0, 0), 10);
    due("COINS", x.seat(0, 1), 90 + 2 * 6 + 10);
    x = of("thing a 1 1; seat s 1 999; heat = 9; winds 100; grace 9;");
    due("lend 999", x.lend(0, 0, 999), 0);
    x.hours(3);
    due("call 999", x.call(0, 0), 999);
    due("lend again", x.lend(0, 0, 9), 990);
    due("unseen anew", x.loan(0, 0, 1), 0);
    x.hours(9);
    due("lend again, once it is GONE", x.lend(0, 0, 9), 981);
    due("unseen anew", x.loan(0, 0, 1), 0);
    // by hand no WIND is looked at
    x = of(WINDY + "begins 1;");
    due("WIND", x.count(13), 1);
    due("seat(0, 2)", x.seat(0, 2), 1);
    due("lend", x.lend(0, 0, 5), 95);
    due("call", x.call(0, 0), 5);
  }

  private static void hoursGoBy() {
    MirageLoans x = of(NOON);
    due("hours(0)", x.hours(0), 10);
    due("hours(-1)", x.hours(-1), -1);
    due("hours(49)", x.hours(49), -1);
    due("count(10)", x.count(10), 0);
    due("hours(48)", x.hours(48), 58);
    due("hour of the day", x.count(3), 10);
    due("day", x.count(4), 2);
    // unseen hours count on end: at 12 and 13 unseen, then SEEN
    x = of(NOON);
    x.lend(0, 0, 50);
    due("hours(4)", x.hours(4), 14);
    due("unseen", x.loan(0, 0, 1), 2);
    due("more by INTEREST", x.loan(0, 0, 0), 60);
    x.move(0, 9);
    x.hours(1);
    due("unseen", x.loan(0, 0, 1), 0);
    due("lent", x.loan(0, 0, 0), 60);
    due("RENT", x.seat(0, 6), 10 + 10 + 11);
    x.move(0, 2);
    x.hours(2);
    due("unseen", x.loan(0, 0, 1), 2);
    due("GONE", x.seat(0, 5), 0);
    x.hours(1);
    due("GONE", x.seat(0, 5), 1);
    due("loan", x.loan(0, 0, 0), -2);
    due("COINS", x.seat(0, 1), 50 + 31);
    // WINDS: at 1 to 4 nothing is SEEN
    x = of(WINDY + "grace 5;");
    x.lend(0, 0, 10);
    int[] lent = {10, 15, 22, 33, 49, 49};
    int[] unseen = {0, 1, 2, 3, 4, 0};
    for (int i = 0; i < 6; i++) {
      x.hours(1);
      due("lent at " + i, x.loan(0, 0, 0), lent[i]);
      due("unseen at " + i, x.loan(0, 0, 1), unseen[i]);
    }
    due("RENT", x.count(14), 2);
  }

  private static void mostCoins() {
    MirageLoans x = of("thing a 1 1; thing b 1 1; thing c 1 1; seat s 1 999; heat = 9; rent = 99; interest = 99; grace 99;"
        + "seen = if day < 9 then 1 else 0;");
    for (int thing = 0; thing < 3; thing++) x.lend(0, thing, 333);
    for (int i = 0; i < 4; i++) x.hours(48);
    due("COINS", x.seat(0, 1), 4 * 48 * 297);
    due("call", x.call(0, 0), 333);
    due("lend", x.lend(0, 0, 333), 4 * 48 * 297);
    x.hours(24);
    due("hour", x.count(2), 9 * 24);
    due("unseen now", x.seat(0, 2), 0);
    for (int i = 0; i < 12; i++) x.hours(1);
    due("lent at most", x.loan(0, 0, 0), 99999);
    due("book", x.book(0, 0), 64152 + 3 * 99999);
    x = of("thing a 1 1; thing b 1 1; thing c 1 1; thing d 1 1; seat s 1 999; heat = 9; rent = 99;");
    for (int thing = 0; thing < 4; thing++) x.lend(0, thing, 200);
    for (int i = 0; i < 6; i++) x.hours(48);
    due("COINS at most", x.seat(0, 1), 99999);
    due("call beyond", x.call(0, 0), -2);
    due("RENT", x.seat(0, 6), 6 * 48 * 396);
    // what is called back just fits, or is too much by one
    x = of("thing a 1 1; thing b 1 1; seat s 1 999; heat = 9; rent = lent;");
    x.lend(0, 0, 99);
    x.lend(0, 1, 1);
    for (int i = 0; i < 20; i++) x.hours(48);
    x.hours(30);
    // 899 and 990 hours of 100
    due("COINS", x.seat(0, 1), 99899);
    x.hours(1);
    due("COINS at most, just so", x.seat(0, 1), 99999);
    due("call beyond by 1", x.call(0, 1), -2);
    due("undo", x.undo(), true);
    due("call 99", x.call(0, 0), 99);
    due("COINS", x.seat(0, 1), 99998);
    due("call 1: 99,999 just so", x.call(0, 1), 1);
    due("COINS", x.seat(0, 1), 99999);
  }

  /** All six by all six: the last ones count too. */
  private static void fullHouse() {
    StringBuilder text = new StringBuilder("heat = 30; rent = 1; interest = 10; seen = 30 - far - lent * 30;");
    for (int i = 0; i < 6; i++) text.append("thing t").append((char) ('a' + i)).append(" ").append(3 * i).append(" 1;");
    for (int i = 0; i < 6; i++) text.append("seat s").append((char) ('a' + i)).append(" ").append(i).append(" 60;");
    MirageLoans x = of(text.toString());
    for (int seat = 0; seat < 6; seat++)
      for (int thing = 0; thing < 6; thing++) due("lend", x.lend(seat, thing, 10), 60 - 10 * (thing + 1));
    due("count(5)", x.count(5), 36);
    due("count(16)", x.count(16), 63);
    due("thing(5, 2)", x.thing(5, 2), 63);
    due("thing(5, 3)", x.thing(5, 3), 63);
    due("seat(5, 2)", x.seat(5, 2), 63);
    due("seat(5, 3)", x.seat(5, 3), 63);
    due("seat(5, 4)", x.seat(5, 4), 60);
    due("crowd(15)", x.crowd(15), 32);
    due("clash(0)", x.clash(0), 0);
    due("near(19, 0)", x.near(19, 0), 5);
    due("umbrellas(1, -1)", x.umbrellas(1, -1), 6);
    x.hours(1);
    due("count(14)", x.count(14), 36);
    due("seat(5, 6)", x.seat(5, 6), 6);
    due("rich(2, 1)", x.rich(2, 1), 60 + 6 + 12);
    due("book(5, 48)", x.book(5, 48), 60 + 6 + 48 * 6);
    due("thing(6, 0)", x.thing(6, 0), -1);
    due("seat(6, 0)", x.seat(6, 0), -1);
    due("lend(6, 0)", x.lend(6, 0, 1), -1);
    due("lend(0, 6)", x.lend(0, 6, 1), -1);
    // a LAW of what is SEEN knows nothing of what was lent, though INTEREST was asked for just ahead of it
    x = of("thing a 0 1; thing b 5 1; seat s 5 20; seat u 5 20; heat = 1 + 9 / (day + 1) * (1 - day); interest = 10; seen = warm - far - lent * 50;");
    x.lend(0, 0, 10);
    x.lend(0, 1, 10);
    x.hours(24);
    due("RENT", x.seat(0, 6), 48);
    x.hours(1);
    due("more by INTEREST", x.loan(0, 0, 0), 11);
    due("unseen", x.loan(0, 1, 1), 0);
    due("RENT", x.seat(0, 6), 49);
  }

  private static void undone() {
    MirageLoans x = of(NOON);
    due("undo nothing", x.undo(), false);
    x.lend(0, 0, 10);
    x.lend(1, 1, 20);
    x.hours(20);
    x.move(0, 7);
    due("GONE", x.count(8), 2);
    due("undo move", x.undo(), true);
    due("X", x.seat(0, 0), 2);
    due("undo hours", x.undo(), true);
    due("hour", x.count(2), 10);
    due("GONE", x.count(8), 0);
    due("RENT", x.count(14), 0);
    due("loan", x.loan(1, 1, 0), 20);
    x.call(0, 0);
    due("undo call", x.undo(), true);
    due("loan", x.loan(0, 0, 0), 10);
    due("undo lend", x.undo(), true);
    due("COINS", x.seat(1, 1), 50);
    due("undo lend", x.undo(), true);
    due("undo nothing", x.undo(), false);
    for (int i = 0; i < 35; i++) x.hours(1);
    x.hours(0);
    x.hours(50);
    x.lend(0, 0, 1000);
    due("count(10)", x.count(10), 30);
    for (int i = 0; i < 30; i++) due("undo " + i, x.undo(), true);
    due("undo the 31st", x.undo(), false);
    due("hour", x.count(2), 15);
  }

  private static void sights() {
    MirageLoans x = of(NOON);
    due("sight(2, 0, 0)", x.sight(2, 0, 0), 13);
    due("sight(15, 0, 0)", x.sight(15, 0, 0), 7);
    due("sight at the same X", x.sight(10, 0, 0), 13);
    due("sight(2, 0, 2)", x.sight(2, 0, 2), -2);
    due("sight(2, 0, 14)", x.sight(2, 0, 14), 13);
    due("sight(2, 0, 48)", x.sight(2, 0, 48), 13);
    due("sight(2, 0, 49)", x.sight(2, 0, 49), -1);
    due("sight(2, 0, -1)", x.sight(2, 0, -1), -1);
    due("sight(20, 0, 0)", x.sight(20, 0, 0), -1);
    due("sight(2, 2, 0)", x.sight(2, 2, 0), -1);
    MirageLoans y = of("thing a 17 1; thing b 2 1; seen = 1; moved = 0 - 9 * side + 9 * (1 - side);");
    due("towards", y.sight(16, 0, 0), 8);
    due("held to 19", y.sight(17, 0, 0), 19);
    due("held to 0", y.sight(5, 1, 0), 0);
    // SEEN from 2: at 10, 11, and 24 to 35, and 48 to 59
    due("longFrom(2, 0, 1)", x.longFrom(2, 0, 1), 1);
    due("longFrom(2, 0, 2)", x.longFrom(2, 0, 2), 2);
    due("longFrom(2, 0, 14)", x.longFrom(2, 0, 14), 2);
    due("longFrom(2, 0, 15)", x.longFrom(2, 0, 15), 3);
    due("longFrom(2, 0, 48)", x.longFrom(2, 0, 48), 2 + 12 + 10);
    due("longFrom(2, 0, 0)", x.longFrom(2, 0, 0), -1);
    due("longFrom(2, 0, 49)", x.longFrom(2, 0, 49), -1);
    due("longFrom(-1, 0, 1)", x.longFrom(-1, 0, 1), -1);
    due("longFrom(2, -1, 1)", x.longFrom(2, -1, 1), -1);
    // with heat 3 it is SEEN from 8 to 12
    due("best(0, 2, 0)", x.best(0, 2, 0), 0);
    due("best(0, 2, 1)", x.best(0, 2, 1), 2);
    due("best(0, 5, 0)", x.best(0, 5, 0), 8);
    due("best(0, 5, 1)", x.best(0, 5, 1), 5);
    due("best(0, 48, 1)", x.best(0, 48, 1), 48);
    due("best(0, 49, 1)", x.best(0, 49, 1), -1);
    due("best(0, 0, 1)", x.best(0, 0, 1), -1);
    due("best(0, 1, 2)", x.best(0, 1, 2), -1);
    due("best(0, 1, -1)", x.best(0, 1, -1), -1);
    due("best(2, 1, 0)", x.best(2, 1, 0), -1);
    due("dawns(2, 0)", x.dawns(2, 0), 0);
    x.hours(2);
    due("dawns(2, 0)", x.dawns(2, 0), 12);
    due("dawns(2, 1)", x.dawns(2, 1), 0);
    due("dawns(20, 1)", x.dawns(20, 1), -1);
    due("dawns(2, 2)", x.dawns(2, 2), -1);
    due("dawns never", of("thing a 1 1; seen = 0;").dawns(1, 0), -2);
    due("dawns behind 48", of("thing a 1 1; seen = day - 1;").dawns(1, 0), 48);
    due("dawns behind 49", of("thing a 1 1; seen = day + hour / 1 * (day / 2) - 2;").dawns(1, 0), -2);
    // no WINDS
    due("sight in a WIND", of(WINDY).sight(5, 0, 1), 5);
    due("longFrom in WINDS", of(WINDY).longFrom(5, 0, 12), 12);
  }

  private static void clashes() {
    MirageLoans x = of(NOON);
    due("clash(0)", x.clash(0), 0);
    due("clash(1)", x.clash(1), -2);
    x.lend(1, 0, 5);
    x.lend(0, 0, 5);
    due("clash(0)", x.clash(0), 0);
    x.lend(0, 1, 5);
    due("clash(0)", x.clash(0), 1);
    due("clash(1)", x.clash(1), 1);
    due("clash(2)", x.clash(2), -1);
    due("clash(-1)", x.clash(-1), -1);
    x.hours(2);
    due("clash unseen", x.clash(0), 0);
    // the same THING at one X is no clash; pairs of SEATS count once
    x = of("thing a 5 1; thing b 5 2; seat p 1 9; seat q 1 9; seat r 1 9; seen = 1;");
    x.lend(1, 0, 1);
    x.lend(2, 0, 1);
    due("clash(0)", x.clash(0), 0);
    x.lend(2, 1, 1);
    due("clash(0)", x.clash(0), 1);
    due("clash(1)", x.clash(1), 12);
    x.lend(1, 1, 1);
    due("clash(0)", x.clash(0), 1);
    x.lend(0, 1, 1);
    due("clash(0)", x.clash(0), 3);
    due("clash(1)", x.clash(1), 1);
  }

  private static void nearAndCrowd() {
    MirageLoans x = of(NOON);
    due("near(2, 0)", x.near(2, 0), 1);
    due("near(2, 1)", x.near(2, 1), 5);
    due("near(15, 0)", x.near(15, 0), 0);
    due("near(15, 1)", x.near(15, 1), 8);
    // from 7: a at 13, b at 1, alike far
    due("near(7, 0)", x.near(7, 0), 0);
    due("near(7, 1)", x.near(7, 1), 6);
    due("near(20, 0)", x.near(20, 0), -1);
    due("near(-1, 0)", x.near(-1, 0), -1);
    due("near(2, 2)", x.near(2, 2), -1);
    due("near(2, -1)", x.near(2, -1), -1);
    due("crowd(7)", x.crowd(7), 3);
    due("crowd(13)", x.crowd(13), 1);
    due("crowd(1)", x.crowd(1), 2);
    due("crowd(10)", x.crowd(10), 0);
    due("crowd(20)", x.crowd(20), -1);
    due("crowd(-1)", x.crowd(-1), -1);
    x.hours(2);
    due("near(15, 0)", x.near(15, 0), -2);
    due("near(15, 1)", x.near(15, 1), -2);
    due("crowd(7)", x.crowd(7), 2);
  }

  private static void booksAndYears() {
    MirageLoans x = of(WINDY + "grace 5;");
    due("rich, no loans", x.rich(0, 1), 100);
    x.lend(0, 0, 10);
    int[] lent = {10, 10, 15, 22, 33, 49, 49};
    int[] coins = {90, 91, 91, 91, 91, 91, 92};
    for (int n = 0; n <= 6; n++) {
      due("lentIn " + n, x.lentIn(0, 0, n), lent[n]);
      due("book " + n, x.book(0, n), lent[n] + coins[n]);
      due("rich " + n, x.rich(n, 1), lent[n] + coins[n]);
    }
    due("nothing happens", x.count(2), 0);
    due("nothing happens", x.loan(0, 0, 0), 10);
    due("lentIn(0, 0, 49)", x.lentIn(0, 0, 49), -1);
    due("lentIn(0, 0, -1)", x.lentIn(0, 0, -1), -1);
    due("lentIn(1, 0, 0)", x.lentIn(1, 0, 0), -1);
    due("lentIn(0, 1, 0)", x.lentIn(0, 1, 0), -1);
    due("book(0, 49)", x.book(0, 49), -1);
    due("book(0, -1)", x.book(0, -1), -1);
    due("book(1, 0)", x.book(1, 0), -1);
    // by seeds 7, 8, 9, 10, 11: two WINDS on end behind 3, 3, 9 hours, and not in 12 by the others
    x = of(WINDY + "grace 2;");
    due("year, no loan", x.year(0, 0, 0, 5), 0);
    x.lend(0, 0, 10);
    due("year 0", x.year(0, 0, 0, 5), 5);
    due("year 2", x.year(0, 0, 2, 5), 5);
    due("year 3", x.year(0, 0, 3, 5), 3);
    due("year 3 by 1", x.year(0, 0, 3, 1), 0);
    due("year 8", x.year(0, 0, 8, 5), 3);
    due("year 9", x.year(0, 0, 9, 5), 2);
    due("year 9 by 4", x.year(0, 0, 9, 4), 1);
    due("year by 0", x.year(0, 0, 9, 0), -1);
    due("year by 21", x.year(0, 0, 9, 21), -1);
    due("year 49", x.year(0, 0, 49, 1), -1);
    due("year -1", x.year(0, 0, -1, 1), -1);
    due("year(1)", x.year(1, 0, 1, 1), -1);
    due("year on 1", x.year(0, 1, 1, 1), -1);
    due("lentIn GONE", x.lentIn(0, 0, 3), -2);
    due("book GONE", x.book(0, 3), 91);
    // RICH: of alike ones the first
    x = of("seat p 1 7; seat q 1 9; seat r 1 9;");
    due("rich(0, 0)", x.rich(0, 0), 1);
    due("rich(48, 1)", x.rich(48, 1), 9);
    due("rich(49, 1)", x.rich(49, 1), -1);
    due("rich(-1, 1)", x.rich(-1, 1), -1);
    due("rich(1, 2)", x.rich(1, 2), -1);
    due("rich(1, -1)", x.rich(1, -1), -1);
    due("rich, no SEATS", of("thing a 1 1;").rich(1, 0), -2);
  }

  private static void umbrellas() {
    // each is SEEN from its X and one to each side
    MirageLoans x = of("thing a 3 1; thing b 5 1; thing c 12 1; thing d 19 1; seen = 2 - far;");
    due("umbrellas(1, -1)", x.umbrellas(1, -1), 2);
    due("umbrellas(1, 0)", x.umbrellas(1, 0), 4);
    due("umbrellas(2, -1)", x.umbrellas(2, -1), 3);
    due("umbrellas(2, 0)", x.umbrellas(2, 0), 4);
    due("umbrellas(2, 1)", x.umbrellas(2, 1), 11);
    due("umbrellas(3, -1)", x.umbrellas(3, -1), 4);
    due("umbrellas(3, 0)", x.umbrellas(3, 0), 4);
    due("umbrellas(3, 1)", x.umbrellas(3, 1), 11);
    due("umbrellas(3, 2)", x.umbrellas(3, 2), 18);
    due("umbrellas(1, 1)", x.umbrellas(1, 1), -1);
    due("umbrellas(3, 3)", x.umbrellas(3, 3), -1);
    due("umbrellas(3, -2)", x.umbrellas(3, -2), -1);
    due("umbrellas(0, -1)", x.umbrellas(0, -1), -1);
    due("umbrellas(4, -1)", x.umbrellas(4, -1), -1);
    x = of("thing a 18 1; thing b 19 1; seen = if across < at + 1 then if0 else 0;".replace("if0", "2 - far"));
    due("umbrellas(3, 0)", x.umbrellas(3, 0), 0);
    due("umbrellas(3, 1)", x.umbrellas(3, 1), 1);
    due("umbrellas(3, 2)", x.umbrellas(3, 2), 19);
    x = of("thing a 17 1; thing b 18 1; thing c 19 1; seen = 1 - far;");
    due("umbrellas(3, 0)", x.umbrellas(3, 0), 17);
    due("umbrellas(3, 1)", x.umbrellas(3, 1), 18);
    due("umbrellas(3, 2)", x.umbrellas(3, 2), 19);
    due("umbrellas(2, 1)", x.umbrellas(2, 1), 18);
  }

  private static void worths() {
    MirageLoans x = of(NOON);
    due("worth 1", x.worth(0, 0, 50, 1), 10);
    due("worth 2, unseen then", x.worth(0, 0, 50, 2), 20 - 50);
    due("worth 4, unseen then", x.worth(0, 0, 50, 4), 20 - 50);
    due("worth 14, GONE", x.worth(0, 0, 50, 14), 20 - 50);
    due("worth by more than its COINS", x.worth(1, 0, 999, 1), 99);
    due("worth n 0", x.worth(0, 0, 0, 1), -100000);
    due("worth n 1000", x.worth(0, 0, 1000, 1), -100000);
    due("worth m 0", x.worth(0, 0, 1, 0), -100000);
    due("worth m 49", x.worth(0, 0, 1, 49), -100000);
    due("worth(2)", x.worth(2, 0, 1, 1), -100000);
    due("worth on 2", x.worth(0, 2, 1, 1), -100000);
    x.lend(0, 0, 30);
    x.hours(3);
    due("worth with a loan, unseen now", x.worth(0, 0, 50, 2), -50);
    due("nothing happens", x.loan(0, 0, 1), 1);
    x.hours(9);
    // two hours unseen, then SEEN: what is lent is more by then
    due("worth 2", x.worth(1, 0, 50, 2), 60 - 50);
    due("worth 3", x.worth(1, 0, 50, 3), 11 + 60 - 50);
    x = of(NOON);
    x.hours(11);
    x.move(0, 9);
    x.lend(0, 0, 10);
    x.move(0, 2);
    x.hours(2);
    due("unseen", x.loan(0, 0, 1), 2);
    due("worth with a loan that is nearly GONE", x.worth(0, 0, 50, 1), 55 - 50);
    due("worth, no WINDS", of(WINDY + "grace 1;").worth(0, 0, 10, 48), 48);
  }

  private static void hiddenWays() {
    MirageLoans x = of("seat s 10 1; heat = if hour < 5 then 0 else 5;");
    due("hidden(9, 11, 1)", x.hidden(9, 11, 1), 2);
    due("hidden(10, 10, 1)", x.hidden(10, 10, 1), 0);
    due("hidden(6, 14, 1)", x.hidden(6, 14, 1), -2);
    due("hidden(8, 12, 1)", x.hidden(8, 12, 1), 4);
    due("hidden(5, 15, 1)", x.hidden(5, 15, 1), -2);
    due("hidden(0, 5, 1)", x.hidden(0, 5, 1), 5);
    x.hours(5);
    due("hidden(0, 6, 1)", x.hidden(0, 6, 1), 19);
    due("hidden(6, 6, 1)", x.hidden(6, 6, 1), -2);
    due("hidden(6, 5, 1)", x.hidden(6, 5, 1), -2);
    due("hidden(5, 5, 1)", x.hidden(5, 5, 1), 0);
    due("hidden(20, 0, 1)", x.hidden(20, 0, 1), -1);
    due("hidden(0, -1, 1)", x.hidden(0, -1, 1), -1);
    due("hidden(0, 0, 0)", x.hidden(0, 0, 0), -1);
    due("hidden(0, 0, 10)", x.hidden(0, 0, 10), -1);
    x = of("seat s 0 1; seen = if tall < 4 then 0 else 1;");
    due("hidden(0, 19, 3)", x.hidden(0, 19, 3), 19);
    due("hidden(19, 0, 3)", x.hidden(19, 0, 3), 19);
    due("hidden(0, 19, 4)", x.hidden(0, 19, 4), -2);
    // it can be waited till the second day's end, 48 hours on, but no longer
    x = of("seat s 0 1; seen = if day < 2 then across - 3 else 0;");
    due("hidden(3, 4, 1)", x.hidden(3, 4, 1), 48);
    due("hidden(3, 5, 1)", x.hidden(3, 5, 1), -2);
  }

  private static void coolAndHeat() {
    MirageLoans x = of(NOON);
    due("cool, s SEES b", x.cool(), -2);
    x.move(0, 19);
    due("cool", x.cool(), 2);
    x.hours(2);
    due("cool now", x.cool(), 0);
    due("cool, no SEATS", of("thing a 1 1; seen = 1;").cool(), 0);
    due("cool behind 48", of("thing a 1 1; seat s 1 1; seen = 2 - day;").cool(), 48);
    due("heatIn(0)", x.heatIn(0), 3);
    due("heatIn(11)", x.heatIn(11), 3);
    due("heatIn(12)", x.heatIn(12), 12);
    due("heatIn(48)", x.heatIn(48), 3);
    due("heatIn(49)", x.heatIn(49), -1);
    due("heatIn(-1)", x.heatIn(-1), -1);
  }

  private static void told() {
    MirageLoans x = of("heat = if hour < 12 then 6 else 0; moved = tall - 5;");
    due("stands(0)", x.stands(0), 180);
    due("sure(0, 0)", x.sure(0, 0), -2);
    due("tell(20)", x.tell(20, 0, 0), -1);
    due("tell(-1)", x.tell(-1, 0, 0), -1);
    due("tell at 20", x.tell(0, 20, 0), -1);
    due("tell at -2", x.tell(0, -2, 0), -1);
    due("tell in -1", x.tell(0, 0, -1), -1);
    due("tell in 25", x.tell(0, 0, 25), -1);
    due("count(11)", x.count(11), 0);
    // SEEN from 0: X 0 .. 5, at X and TALL less 5. At 9: X 5 with TALL 9 alone
    due("tell", x.tell(0, 9, 0), 0);
    due("stands(1)", x.stands(1), 1);
    due("sure(1, 0)", x.sure(1, 0), 5);
    due("sure(1, 1)", x.sure(1, 1), 9);
    due("look(1, 0)", x.look(1, 0), 0);
    due("forget()", x.forget(), 1);
    due("forget()", x.forget(), 0);
    // at 8: X 4 with TALL 9, X 5 with TALL 8
    x.tell(0, 8, 3);
    due("stands(1)", x.stands(1), 2);
    due("sure(1, 0)", x.sure(1, 0), -2);
    due("sure(1, 1)", x.sure(1, 1), -2);
    // from 0 to 4 both go the same way; from 5 X 4 is SEEN at 0 and X 5 at 8
    due("look(1, 0)", x.look(1, 0), 5);
    due("look(1, 12), by night", x.look(1, 12), 0);
    due("tell", x.tell(5, -1, 12), 1);
    due("stands(2)", x.stands(2), 2);
    // it stays told of the hour of which it was told
    x.hours(10);
    due("stands(2)", x.stands(2), 2);
    due("tell", x.tell(5, 8, 14), 2);
    due("stands(3)", x.stands(3), 1);
    due("sure(3, 1)", x.sure(3, 1), 8);
    due("stands(1)", x.stands(1), 2);
    due("tell", x.tell(5, 9, 15), 3);
    due("stands(4)", x.stands(4), 0);
    due("sure(4, 0)", x.sure(4, 0), -2);
    due("look(4, 0)", x.look(4, 0), -2);
    due("stands(5)", x.stands(5), -1);
    due("stands(-1)", x.stands(-1), -1);
    due("sure(5, 0)", x.sure(5, 0), -1);
    due("sure(1, 2)", x.sure(1, 2), -1);
    due("sure(1, -1)", x.sure(1, -1), -1);
    due("look(5, 0)", x.look(5, 0), -1);
    due("look(-1, 0)", x.look(-1, 0), -1);
    due("look(4, 25)", x.look(4, 25), -1);
    due("look(4, -1)", x.look(4, -1), -1);
    due("look(1, 24)", x.look(1, 24), 5);
    // with TALL 1 it is SEEN at its X, if that is 0; taller ones are SEEN 9 further on
    MirageLoans y = of("heat = 99; moved = if tall < 2 then 0 else 9; seen = if across < 1 then 1 else tall - 1;");
    y.tell(0, 0, 0);
    due("stands(1)", y.stands(1), 1);
    due("sure(1, 0)", y.sure(1, 0), 0);
    due("sure(1, 1)", y.sure(1, 1), 1);
    for (int i = 4; i < 20; i++) due("tell " + i, x.tell(1, 1, 0), i);
    due("tell a 21st", x.tell(1, 1, 0), -1);
    due("count(11)", x.count(11), 20);
    due("undo()", x.undo(), true);
    due("forget()", x.forget(), 20);
  }

  private static void slots() {
    MirageLoans x = of(NOON);
    due("restore(0)", x.restore(0), false);
    due("hold(3)", x.hold(3), false);
    due("hold(-1)", x.hold(-1), false);
    due("hold(0)", x.hold(0), true);
    x.lend(0, 0, 10);
    x.hours(1);
    x.tell(1, 1, 1);
    x.feed(0, 0, 0, 0, 0);
    due("hold(2)", x.hold(2), true);
    due("count(10), not changed by hold", x.count(10), 2);
    x.hours(30);
    x.move(1, 3);
    due("count(12)", x.count(12), 2);
    due("restore(2)", x.restore(2), true);
    due("count(2)", x.count(2), 11);
    due("loan", x.loan(0, 0, 0), 10);
    due("RENT", x.seat(0, 6), 6);
    due("X", x.seat(1, 0), 15);
    due("count(10)", x.count(10), 0);
    due("undo()", x.undo(), false);
    due("count(11)", x.count(11), 1);
    due("count(9)", x.count(9), 20);
    x.hours(5);
    due("restore(0)", x.restore(0), true);
    due("count(2)", x.count(2), 10);
    due("count(5)", x.count(5), 0);
    due("restore(2) again", x.restore(2), true);
    due("loan", x.loan(0, 0, 0), 10);
    x.hours(1);
    due("restore(1)", x.restore(1), false);
    due("restore(3)", x.restore(3), false);
    due("restore(-1)", x.restore(-1), false);
    due("count(10)", x.count(10), 1);
    due("count(2)", x.count(2), 12);
  }

  private static void counts() {
    MirageLoans x = of(NOON);
    x.lend(0, 0, 20);
    x.lend(1, 1, 20);
    x.hours(5);
    x.hold(0);
    x.tell(0, 0, 0);
    x.move(0, 9);
    x.hours(12);
    int[] want = {2, 2, 27, 3, 1, 0, 0, 80 + 14 + 30 + 6, 2, 0, 5, 1, 1, 0, 20, 12, 3};
    for (int what = 0; what <= 16; what++) due("count(" + what + ")", x.count(what), want[what]);
    due("count(17)", x.count(17), -1);
    due("count(-1)", x.count(-1), -1);
    x = of(NOON);
    x.lend(0, 0, 20);
    x.lend(0, 1, 30);
    x.lend(1, 1, 20);
    due("count(5)", x.count(5), 3);
    due("count(6)", x.count(6), 70);
    due("count(7)", x.count(7), 80);
    x.hours(2);
    due("count(16)", x.count(16), 2);
    x = of(WINDY);
    for (int hour = 0; hour <= 11; hour++) {
      due("WIND at " + hour, x.count(13), hour >= 1 && hour <= 4 || hour == 9 || hour == 10 ? 1 : 0);
      x.hours(1);
    }
  }
}
