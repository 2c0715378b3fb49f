/** The bounds that "Terms" and promises 1 to 5 name, a test for each sentence: texts, their TOKENS, their FAULTS, the tape. */
public final class TextBoundsTest {
  private static final String[] WORDS = {"thing", "seat", "heat", "seen", "moved", "rent", "interest", "grace", "winds", "begins", "seed",
      "if", "then", "else", "hour", "day", "warm", "far", "tall", "across", "lent", "side", "at"};
  private static final String SIX_THINGS = "thing a 1 1;thing b 1 1;thing c 1 1;thing d 1 1;thing e 1 1;thing f 1 1;";
  private static final String SIX_SEATS = "seat g 1 1;seat h 1 1;seat i 1 1;seat j 1 1;seat k 1 1;seat l 1 1;";

  public static void main(String[] args) {
    terms();
    faults();
    promises();
    Run.end();
  }

  private static void terms() {
    Run.test("A TEXT has 2,000 bytes at most.", TextBoundsTest::twoThousandBytes);
    Run.test("TOKENS, the longest that can be,", TextBoundsTest::longestTokens);
    Run.test("with blanks (9, 10, 13, 32) between or not:", TextBoundsTest::blanks);
    Run.test("NAMES (letters a .. z,", TextBoundsTest::letters);
    Run.test("8 at most,", TextBoundsTest::eightLetters);
    Run.test("none of the words in quotes)", TextBoundsTest::wordsAreNoNames);
    Run.test("INTS (1 to 4 digits)", TextBoundsTest::fourDigits);
    Run.test("A longer one, all else, is no TOKEN.", TextBoundsTest::noTokens);
    Run.test("text: {TELL}.", TextBoundsTest::noTellAndMany);
    Run.test("LAW: '=' {'if' E '<' E 'then' E 'else'} E. E: PART {('+' | '-') PART}. PART: UNIT {('*' | '/') UNIT}. "
        + "UNIT: INT | VAR | '(' E ')'.", TextBoundsTest::shortestLaws);
    Run.test("THINGS, 6 at most", TextBoundsTest::sixThings);
    Run.test("(a NAME, X 0 .. 19, TALL 1 .. 9)", TextBoundsTest::thingNumbers);
    Run.test("SEATS, 6 at most", TextBoundsTest::sixSeats);
    Run.test("(a NAME, X 0 .. 19, COINS 0 .. 999)", TextBoundsTest::seatNumbers);
    Run.test("numbered each from 0 on as they stand.", TextBoundsTest::numbered);
    Run.test("LAWS: HEAT (hour), SEEN (warm less far), MOVED (0), RENT (tall), INTEREST (0), if not told;", TextBoundsTest::lawsNotTold);
    Run.test("if not told; the last one.", TextBoundsTest::lastLaw);
    Run.test("GRACE 1 .. 99 (24):", TextBoundsTest::graceNumbers);
    Run.test("WINDS 0 .. 100 (0),", TextBoundsTest::windsNumbers);
    Run.test("BEGINS: the hour of the day that it is at first 0 .. 23 (0),", TextBoundsTest::beginsNumbers);
    Run.test("SEED 0 .. 9999 (0):", TextBoundsTest::seedNumbers);
    Run.test("SEED 0 .. 9999 (0): the last one.", TextBoundsTest::lastNumbers);
  }

  private static void faults() {
    Run.test("FAULTS of a text, the first by its place", TextBoundsTest::firstByPlace);
    Run.test("(a byte; the text's end: its length)", TextBoundsTest::atTheEnd);
    Run.test("of one place the least:", TextBoundsTest::leastOfOnePlace);
    Run.test("1 SYNTAX: a TOKEN, or what is none, with which no text goes on.", TextBoundsTest::syntax);
    Run.test("2 ROOM: a 401st TOKEN;", TextBoundsTest::fourHundredTokens);
    Run.test("one more of a sort than told (at its first TOKEN);", TextBoundsTest::oneMoreOfASort);
    Run.test("a 5th if of a LAW (at it);", TextBoundsTest::fifthIf);
    Run.test("a 7th ( within one another (at it).", TextBoundsTest::seventhWithin);
    Run.test("If there is none, likewise:", TextBoundsTest::onlyIfThereIsNone);
    Run.test("3 TWICE: a NAME told already (all together).", TextBoundsTest::twice);
    Run.test("5 WRONG (at the INT): a number not as told above.", TextBoundsTest::wrong);
    Run.test("A text with a FAULT changes nothing but the tape;", TextBoundsTest::aFaultChangesNothing);
    Run.test("else it is in place of the one ahead: nothing lent; nothing can be undone, nothing is TOLD, SLOTS hold nothing.",
        TextBoundsTest::inPlaceOfTheOneAhead);
  }

  private static void promises() {
    Run.test("`MirageLoans()`: No THINGS, no SEATS.", TextBoundsTest::aNewObject);
    Run.test("An object is used for at most 512 calls after it has been made;", TextBoundsTest::manyCalls);
    Run.test("Twenty bytes, the highest of a first, come behind the tape: how many it has.", TextBoundsTest::highestByteFirst);
    Run.test("NONE, and nothing comes, if it would have more than 2,000.", TextBoundsTest::feedBeyond);
    Run.test("NONE, and nothing goes, if it has not so many, or n is below 0.", TextBoundsTest::backBeyond);
    Run.test("The tape, which is empty then, is read: 0, or the number of its FAULT.", TextBoundsTest::readEmpties);
    Run.test("The byte of the latest read()'s FAULT; NONE without.", TextBoundsTest::placeOfTheLatest);
  }

  // ---- TOKENS

  private static void twoThousandBytes() {
    String tell = "seat s 7 9;";
    String full = " ".repeat(2000 - tell.length()) + tell;
    Run.of(full).due(1, "count", 1).due(9, "seat", 0, 1);
    Run.fault(1, 1999, " ".repeat(1999) + "?");
    Run.fault(1, 2000, " ".repeat(1994) + "seed 1");
    Run.fault(5, 1998, " ".repeat(1992) + "grace 0;");
    new Run().feed(full).due(-1, "feed", 0, 0, 0, 0, 0).due(2000, "count", 9).due(0, "read").due(1, "count", 1);
    new Run().feed(full.substring(19)).due(-1, "feed", 0, 0, 0, 0, 0).due(1981, "count", 9).due(0, "read").due(1, "count", 1);
    new Run().feed(full.substring(20)).due(2000, "feed", 0x20202020, 0x20202020, 0x20202020, 0x20202020, 0x2020203b)
        .due(1, "read").due(1999, "place");
  }

  private static void longestTokens() {
    Run.fault(1, 0, "thinga 1 1;");
    Run.right("thing a 1 1;");
    Run.fault(1, 9, "begins 1 2;");
    Run.of("begins 12;").due(12, "count", 2);
    // a NAME ends with its letters, an INT with its digits
    Run.of("begins12;thing a1 2;seat b03 4;").due(1, "thing", 0, 0).due(2, "thing", 0, 1).due(3, "seat", 0, 0).due(12, "count", 2);
    Run.fault(1, 5, "heat=iff<1then 1else 1;");
    Run.of("heat=if 1<2then 3else 4;").due(3, "heatIn", 0);
    Run.fault(1, 12, "heat=if 1<2 thena;");
    Run.fault(1, 0, "beginsa1;");
    Run.fault(1, 7, "begins1a;");
  }

  private static void blanks() {
    for (int b = 0; b < 256; b++) {
      String text = "begins" + (char) b + "7;";
      if (isBlank(b)) Run.of(text).due(7, "count", 2);
      else if (b >= '0' && b <= '9') Run.fault(b <= '1' ? 0 : 5, b <= '1' ? -1 : 6, text);
      else Run.fault(1, b >= 'a' && b <= 'z' ? 0 : 6, text);
    }
    Run.of("\t\n\r thing\t\n\r a\t\n\r 1\t\n\r 2\t\n\r ;\t\n\r ").due(2, "thing", 0, 1);
    Run.of("thing a 1 2;thing b 3 4;").due(4, "thing", 1, 1);
    Run.of("heat=1+2*(3-4/2);").due(3, "heatIn", 0);
    Run.of("heat = 1 + 2 * ( 3 - 4 / 2 ) ;").due(3, "heatIn", 0);
  }

  private static boolean isBlank(int b) { return b == 9 || b == 10 || b == 13 || b == 32; }

  private static void letters() {
    for (int b = 0; b < 256; b++) {
      boolean isLetter = b >= 'a' && b <= 'z';
      Run.fault(isLetter ? 0 : 1, isLetter ? -1 : isBlank(b) ? 7 : 5, "seat " + (char) b + " 1 1;");
      boolean isDigit = b >= '0' && b <= '9';
      // behind a letter a digit begins an INT, then one INT too many follows
      Run.fault(isLetter || isBlank(b) ? 0 : 1, isLetter || isBlank(b) ? -1 : isDigit ? 10 : 6, "seat q" + (char) b + " 1 1;");
    }
  }

  private static void eightLetters() {
    Run.right("thing abcdefgh 1 1;");
    Run.right("thing zzzzzzzz 1 1; seat aaaaaaaa 1 1;");
    Run.fault(1, 6, "thing abcdefghi 1 1;");
    Run.fault(1, 5, "seat zzzzzzzzz 1 1;");
    Run.fault(1, 5, "seat " + "q".repeat(1000) + " 1 1;");
    // a longer one is not two: the place is its first letter
    Run.fault(1, 0, "interesti = 1;");
    Run.fault(1, 0, "thingthing a 1 1;");
    // all eight letters count, and how many there are
    Run.right("thing abcdefgh 1 1; thing abcdefgi 1 1; thing bbcdefgh 1 1; thing abcdefg 1 1; seat bcdefgh 1 1; seat h 1 1;");
    Run.right("thing a 1 1; thing aa 1 1; thing aaa 1 1; seat aaaaaaa 1 1; seat aaaaaaaa 1 1; seat z 1 1;");
    Run.fault(3, 25, "thing abcdefgh 1 1; seat abcdefgh 1 1;");
  }

  private static void wordsAreNoNames() {
    for (String word : WORDS) {
      Run.fault(1, 5, "seat " + word + " 1 1;");
      Run.fault(1, 6, "thing " + word + " 1 1;");
      if (word.length() < 8) Run.right("seat " + word + "x 1 1;");
      Run.right("seat " + word.substring(1) + " 1 1;");
      Run.right("seat x" + word.substring(1) + " 1 1; thing q" + word.substring(1) + " 1 1;");
    }
  }

  private static void fourDigits() {
    Run.right("seed 0;");
    Run.right("seed 9;");
    Run.right("seed 0000;");
    Run.right("seed 9999;");
    Run.fault(1, 5, "seed 00000;");
    Run.fault(1, 5, "seed 10000;");
    Run.fault(1, 5, "seed 99999;");
    Run.fault(1, 5, "seed " + "1".repeat(100) + ";");
    Run.fault(1, 5, "seed ;");
    Run.of("heat = 9999 - 9990;").due(9, "heatIn", 0);
    Run.of("heat = 0007;").due(7, "heatIn", 0);
    Run.fault(1, 7, "heat = 10000 - 9990;");
    Run.fault(1, 7, "heat = 00007;");
    Run.of("seat s 0019 0999;").due(19, "seat", 0, 0).due(999, "seat", 0, 1);
    Run.fault(1, 7, "seat s 00019 999;");
  }

  private static void noTokens() {
    for (int b = 0; b < 256; b++) {
      if (!isBlank(b)) Run.fault(1, 7, "seed 1;" + (char) b);
      // within a LAW the SIGNS + - * / go on, and ; ends it
      boolean goesOn = "+-*/".indexOf((char) b) >= 0;
      boolean ends = b == ';' || isBlank(b);
      boolean isInt = b >= '0' && b <= '9';
      if (goesOn) Run.right("heat=1" + (char) b + "1;");
      else if (ends) Run.fault(1, 7, "heat=1" + (char) b + "1;");
      else Run.fault(isInt ? 0 : 1, isInt ? -1 : 6, "heat=1" + (char) b + "1;");
    }
    Run.fault(1, 5, "seed " + (char) 160 + "1;");
    Run.fault(1, 5, "seed .;");
    Run.fault(1, 5, "seed -1;");
    Run.fault(1, 5, "heat== 1;");
  }

  // ---- what texts are of

  private static void noTellAndMany() {
    Run.of("").due(0, "count", 0).due(0, "count", 1);
    Run.of(" ").due(0, "count", 0);
    Run.of("seed 1;");
    Run.of("seed 1;".repeat(133)).due(0, "count", 0);
    Run.fault(1, 0, ";");
    Run.fault(1, 7, "seed 1;;");
  }

  private static void shortestLaws() {
    for (String unit : new String[] {"7", "(7)", "((((((7))))))", "7*1", "7/1", "7+0", "7-0", "hour+7", "if 1<0then 8else 7", "if 0<1then 7else 8"})
      Run.of("heat=" + unit + ";").due(7, "heatIn", 0);
    for (String var : new String[] {"hour", "day", "warm", "far", "tall", "across", "lent", "side", "at"})
      for (String law : new String[] {"heat", "seen", "moved", "rent", "interest"}) Run.right(law + "=" + var + ";");
    Run.fault(1, 5, "heat=;");
    Run.fault(1, 6, "heat=();");
    Run.fault(1, 5, "heat=+1;");
    Run.fault(1, 5, "heat=-1;");
    Run.fault(1, 7, "heat=1*;");
    Run.fault(1, 7, "heat=1-;");
    Run.fault(1, 7, "heat=1+-1;");
    Run.fault(1, 8, "heat=if < 1 then 1 else 1;");
    Run.fault(1, 10, "heat=if 1 then 1 else 1;");
    Run.fault(1, 11, "heat=if 1 <then 1 else 1;");
    Run.fault(1, 19, "heat=if 1 < 1 then else 1;");
    Run.fault(1, 25, "heat=if 1 < 1 then 1 else;");
    Run.fault(1, 20, "heat=if 1 < 1 then 1;");
    Run.fault(1, 6, "heat=(if 1 < 1 then 1 else 1);");
    Run.fault(1, 8, "heat=1+(if 1 < 1 then 1 else 1);");
  }

  private static void sixThings() {
    Run.of(SIX_THINGS).due(6, "count", 0).due(1, "thing", 5, 0).due(-1, "thing", 6, 0);
    Run.of(SIX_THINGS + SIX_SEATS).due(6, "count", 0).due(6, "count", 1);
    Run.fault(2, SIX_THINGS.length(), SIX_THINGS + "thing g 1 1;");
    Run.fault(2, SIX_THINGS.length() + SIX_SEATS.length(), SIX_THINGS + SIX_SEATS + "thing m 1 1;");
  }

  private static void sixSeats() {
    Run.of(SIX_SEATS).due(6, "count", 1).due(1, "seat", 5, 0).due(-1, "seat", 6, 0);
    Run.fault(2, SIX_SEATS.length(), SIX_SEATS + "seat m 1 1;");
    Run.fault(2, SIX_SEATS.length() + SIX_THINGS.length() + 1, SIX_SEATS + SIX_THINGS + " seat m 1 1;");
  }

  private static void thingNumbers() {
    Run.of("thing a 0 1; thing b 19 9;").due(0, "thing", 0, 0).due(1, "thing", 0, 1).due(19, "thing", 1, 0).due(9, "thing", 1, 1);
    Run.fault(5, 8, "thing a 20 1;");
    Run.fault(5, 8, "thing a 9999 1;");
    Run.fault(5, 10, "thing a 0 0;");
    Run.fault(5, 10, "thing a 0 10;");
    Run.fault(5, 10, "thing a 0 9999;");
    Run.fault(1, 7, "thing a;");
    Run.fault(1, 9, "thing a 0;");
    Run.fault(1, 12, "thing a 0 1 1;");
  }

  private static void seatNumbers() {
    Run.of("seat a 0 0; seat b 19 999;").due(0, "seat", 0, 0).due(0, "seat", 0, 1).due(19, "seat", 1, 0).due(999, "seat", 1, 1);
    Run.fault(5, 7, "seat a 20 0;");
    Run.fault(5, 7, "seat a 9999 0;");
    Run.fault(5, 9, "seat a 0 1000;");
    Run.fault(5, 9, "seat a 0 9999;");
    Run.fault(1, 6, "seat a;");
    Run.fault(1, 8, "seat a 0;");
    Run.fault(1, 11, "seat a 0 0 0;");
  }

  private static void numbered() {
    Run x = Run.of("seat z 5 50; thing y 3 1; seat x 6 60; thing w 2 2; thing a 1 3; seat b 7 70;");
    for (int i = 0; i < 3; i++) x.due(3 - i, "thing", i, 0).due(1 + i, "thing", i, 1).due(5 + i, "seat", i, 0)
        .due(50 + 10 * i, "seat", i, 1);
    x.due(-1, "thing", 3, 0).due(-1, "seat", 3, 0).due(-1, "thing", -1, 0).due(-1, "seat", -1, 0);
  }

  private static void lawsNotTold() {
    Run x = Run.of("thing a 7 4; begins 5;");
    x.due(5, "tells", 0, 0, 0, 0).due(4, "tells", 2, 0, 0, 50).due(0, "tells", 3, 0, 0, 50).due(0, "tells", 1, 0, 0, 0);
    x.due(7, "sight", 3, 0, 0).due(-2, "sight", 2, 0, 0).due(7, "sight", 11, 0, 0).due(-2, "sight", 12, 0, 0);
    // one that is told does not touch the others, and the next text has those that hold if none is told again
    Run y = Run.of("thing a 7 4; heat=9; seen=1; moved=2; rent=3; interest=4;");
    y.due(9, "tells", 0, 0, 0, 0).due(2, "tells", 1, 0, 0, 0).due(3, "tells", 2, 0, 0, 0).due(4, "tells", 3, 0, 0, 0)
        .due(9, "sight", 0, 0, 0);
    y.read("thing a 7 4; begins 5; rent = 8;");
    y.due(5, "tells", 0, 0, 0, 0).due(8, "tells", 2, 0, 0, 50).due(0, "tells", 3, 0, 0, 50).due(0, "tells", 1, 0, 0, 0);
    y.due(7, "sight", 3, 0, 0).due(-2, "sight", 2, 0, 0);
  }

  private static void lastLaw() {
    Run x = Run.of("thing a 7 4; heat=1; seen=0; moved=1; rent=1; interest=1; heat=2; seen=1; moved=3; rent=4; interest=5;");
    x.due(2, "tells", 0, 0, 0, 0).due(3, "tells", 1, 0, 0, 0).due(4, "tells", 2, 0, 0, 0).due(5, "tells", 3, 0, 0, 0)
        .due(10, "sight", 0, 0, 0);
    // the ifs are counted anew for each
    Run.of("heat = " + "if 1 < 0 then 2 else ".repeat(4) + "3; heat = " + "if 1 < 0 then 2 else ".repeat(4) + "5;").due(5, "heatIn", 0);
    Run.of("heat=1;".repeat(80) + "heat=2;").due(2, "count", 15).due(2, "heatIn", 0);
  }

  // ---- numbers that are told

  /** A loan that is unseen from the first HOUR on is there for one hour less than GRACE, and GONE then. */
  private static void goneBehind(int grace, String tell) {
    Run x = Run.of("thing a 1 1; seat s 1 9; winds 100; heat = 5;" + tell).done("lend", 0, 0, 5);
    for (int left = grace - 1; left > 0; left -= Math.min(left, 48)) x.done("hours", Math.min(left, 48));
    x.due(grace - 1, "loan", 0, 0, 1).due(0, "seat", 0, 5).done("hours", 1).due(-2, "loan", 0, 0, 1).due(1, "seat", 0, 5);
  }

  private static void graceNumbers() {
    goneBehind(1, "grace 1;");
    goneBehind(2, "grace 2;");
    goneBehind(99, "grace 99;");
    goneBehind(24, "");
    Run.fault(5, 6, "grace 0;");
    Run.fault(5, 6, "grace 100;");
    Run.fault(5, 6, "grace 9999;");
  }

  private static int windsInTwoDays(String tell) {
    Run x = Run.of(tell);
    int winds = 0;
    for (int hour = 0; hour < 48; hour++) {
      winds += (int) x.ask("count", 13);
      x.done("hours", 1);
    }
    return winds;
  }

  private static void windsNumbers() {
    for (int seed = 0; seed < 3; seed++) {
      String tell = "seed " + seed + ";";
      Run.same("hours with a WIND by 0", windsInTwoDays(tell + "winds 0;"), 0);
      Run.same("hours with a WIND if none is told", windsInTwoDays(tell), 0);
      Run.same("hours with a WIND by 100", windsInTwoDays(tell + "winds 100;"), 48);
    }
    Run.fault(5, 6, "winds 101;");
    Run.fault(5, 6, "winds 9999;");
  }

  private static void beginsNumbers() {
    Run.of("begins 0;").due(0, "count", 2).due(0, "count", 3).due(0, "count", 4);
    Run.of("begins 23;").due(23, "count", 2).due(23, "count", 3).due(0, "count", 4).due(24, "hours", 1).due(0, "count", 3)
        .due(1, "count", 4);
    Run.of("seed 1;").due(0, "count", 2);
    Run.fault(5, 7, "begins 24;");
    Run.fault(5, 7, "begins 9999;");
  }

  private static void seedNumbers() {
    for (int seed : new int[] {0, 9999}) {
      int lot = HoursBoundsTest.lot(seed, 0);
      Run.of("seed " + seed + "; winds " + lot + ";").due(0, "count", 13);
      Run.of("seed " + seed + "; winds " + (lot + 1) + ";").due(1, "count", 13);
    }
    int lot = HoursBoundsTest.lot(0, 0);
    Run.of("winds " + lot + ";").due(0, "count", 13);
    Run.of("winds " + (lot + 1) + ";").due(1, "count", 13);
    // no INT is too large for a SEED: what would be is no TOKEN
    Run.fault(1, 5, "seed 10000;");
  }

  private static void lastNumbers() {
    goneBehind(3, "grace 7; grace 3;");
    Run.of("begins 7; begins 3;").due(3, "count", 2);
    Run.of("winds 100; winds 0;").due(0, "count", 13);
    Run.of("winds 0; winds 100;").due(1, "count", 13);
    int lot = HoursBoundsTest.lot(4, 0);
    int other = HoursBoundsTest.lot(5, 0);
    Run.of("seed 4; seed 5; winds " + Math.max(lot, other) + ";").due(other < Math.max(lot, other) ? 1 : 0, "count", 13);
    Run.of("seed 5; seed 4; winds " + Math.max(lot, other) + ";").due(lot < Math.max(lot, other) ? 1 : 0, "count", 13);
    // the next texts have those that hold if none is told again
    String told = "grace 7; begins 3; seed 5; winds 100;";
    Run x = new Run();
    for (int i = 0; i < 4; i++) {
      x.read(told).due(3, "count", 2).due(1, "count", 13);
      x.read("winds " + HoursBoundsTest.lot(0, 0) + ";").due(0, "count", 13).due(0, "count", 2);
      x.read("winds " + (HoursBoundsTest.lot(0, 0) + 1) + ";").due(1, "count", 13).due(0, "count", 2);
    }
    for (int i = 0; i < 4; i++) {
      if (i % 2 == 0) x.read("seed 1;");
      x.read(told).read("thing a 1 1; seat s 1 9; seen = 1 - hour;").due(0, "count", 13).done("lend", 0, 0, 5);
      x.done("hours", 23).due(22, "loan", 0, 0, 1).done("hours", 1).due(23, "loan", 0, 0, 1);
    }
    // one that is wrong is a FAULT, though it is not the last
    Run.fault(5, 6, "grace 0; grace 3;");
    Run.fault(5, 7, "begins 24; begins 3;");
  }

  // ---- FAULTS

  private static void firstByPlace() {
    Run.fault(1, 0, "; ?");
    Run.fault(1, 7, "seed 1;; ;");
    Run.fault(1, 5, "seed ?; heat = (((((((1;");
    Run.fault(2, 13, "heat = ((((((( ; ?");
    Run.fault(2, SIX_THINGS.length(), SIX_THINGS + "thing ? ? ?");
    Run.fault(3, 19, "thing a 1 1; thing a 20 0; grace 0;");
    Run.fault(5, 8, "thing a 20 1; thing a 1 1;");
    Run.fault(5, 8, "thing a 20 0;");
    Run.fault(5, 6, "grace 0; winds 101; begins 24;");
  }

  private static void atTheEnd() {
    for (String tell : new String[] {"thing a 1 1 ;", "seat a 1 1 ;", "heat = 1 + hour * ( 2 - 3 ) / 4 ;", "grace 1 ;", "winds 1 ;", "begins 1 ;",
        "seed 1 ;", "rent = if 1 < 2 then 3 else if ( 4 ) < 5 then 6 else 7 ;"})
      for (int at = tell.indexOf(' '); at >= 0; at = tell.indexOf(' ', at + 1)) {
        Run.fault(1, at, tell.substring(0, at));
        Run.fault(1, at + 1, tell.substring(0, at + 1));
        Run.fault(1, at + 10, "begins 7; " + tell.substring(0, at));
      }
    Run.fault(1, 4, "seed");
    Run.fault(1, 9, "seed\t\n\r  ");
  }

  private static void leastOfOnePlace() {
    String full = "seed 1;".repeat(132) + "heat=1;";
    // of a 401st TOKEN with which no text goes on both are told, and SYNTAX is less; of one that goes on ROOM alone
    for (String last : new String[] {"foo", "1", ";", "?", "12345", "abcdefghi", "if", "("}) Run.fault(1, full.length() + 1, full + " " + last);
    for (String last : new String[] {"seed", "thing", "seat", "heat", "grace"}) Run.fault(2, full.length() + 1, full + " " + last);
    String tokens = "seed 1;".repeat(132) + "heat=(1";
    Run.fault(1, tokens.length(), tokens + "(");
    Run.fault(1, tokens.length(), tokens + ";");
    Run.fault(2, tokens.length(), tokens + ")");
    Run.fault(2, tokens.length(), tokens + "+");
  }

  private static void syntax() {
    Run.fault(1, 0, "a");
    Run.fault(1, 0, "1");
    Run.fault(1, 0, "if");
    Run.fault(1, 0, "hour");
    Run.fault(1, 6, "thing 1 1 1;");
    Run.fault(1, 8, "thing a b 1;");
    Run.fault(1, 10, "thing a 1 b;");
    Run.fault(1, 12, "thing a 1 1 thing b 1 1;");
    Run.fault(1, 5, "heat 1;");
    Run.fault(1, 9, "heat = 1 1;");
    Run.fault(1, 9, "heat = 1 < 1;");
    Run.fault(1, 8, "heat = 1);");
    Run.fault(1, 9, "heat = (1;");
    Run.fault(1, 7, "heat = x;");
    Run.fault(1, 7, "heat = then;");
    Run.fault(1, 6, "grace -1;");
    Run.fault(1, 6, "grace hour;");
    Run.fault(1, 6, "grace = 1;");
    Run.fault(1, 6, "grace (1);");
  }

  private static void fourHundredTokens() {
    String tokens = "seed 1;".repeat(132);  // 396
    Run.of(tokens + "begins 7;").due(7, "count", 2);  // 399
    Run.of(tokens + "heat=7;").due(7, "heatIn", 0);  // 400
    Run.fault(2, tokens.length() + 7, tokens + "heat=1+1;");  // 402, and the 401st is the last 1
    Run.fault(2, tokens.length() + 7, tokens + "heat=(1);");  // 402, and the 401st is )
    Run.fault(2, tokens.length() + 8, tokens + "heat=1; grace 1;");
    // the text's end is no TOKEN: behind 400 it is SYNTAX if a text does not end there
    Run.fault(1, tokens.length() + 11, tokens + "seed 1;seed");
    Run.fault(2, tokens.length() + 12, tokens + "seed 1;seed 1");
    // as many again and again
    Run again = new Run();
    for (int i = 0; i < 5; i++) {
      again.read("heat=" + i + "+1".repeat(197) + "-190;").due(i + 7, "heatIn", 0);
      again.feed("heat=1" + "+1".repeat(199)).due(2, "read").due(403, "place");
    }
    // blanks are none
    Run.of(" ".repeat(900) + tokens + "heat=7;" + " ".repeat(100)).due(7, "heatIn", 0);
  }

  private static void oneMoreOfASort() {
    Run.fault(2, SIX_THINGS.length() + 2, SIX_THINGS + "  thing");
    Run.fault(2, SIX_THINGS.length(), SIX_THINGS + "thing a 1 1;");
    Run.fault(2, SIX_THINGS.length(), SIX_THINGS + "thing g 20 0;");
    Run.fault(2, SIX_SEATS.length(), SIX_SEATS + "seat");
    Run.fault(2, SIX_SEATS.length(), SIX_SEATS + "seat ?");
    // of the others there may be as many as one likes
    Run.right("grace 1;".repeat(30) + "winds 1;".repeat(30) + "begins 1;".repeat(30) + "seed 1;".repeat(30));
    Run.right("heat=1;".repeat(20) + "seen=1;".repeat(20) + "moved=1;".repeat(20) + "rent=1;".repeat(20) + "interest=1;".repeat(20));
  }

  private static void fifthIf() {
    String[] laws = {"heat", "seen", "moved", "rent", "interest"};
    for (String law : laws) {
      String four = law + " = " + "if 1 < 0 then 2 else ".repeat(4);
      Run.right(four + "3;");
      Run.fault(2, four.length(), four + "if 1 < 0 then 2 else 3;");
      Run.fault(2, four.length() + 3, four + "   if");
      Run.fault(1, four.length(), four + "then");
      Run.right(four + "3; " + four + "3;");
    }
    Run.of("heat = " + "if 1 < 0 then 2 else ".repeat(3) + "if 0 < 1 then 7 else 3;").due(7, "heatIn", 0);
  }

  private static void seventhWithin() {
    Run.of("heat = ((((((8))))));").due(8, "heatIn", 0);
    Run.fault(2, 13, "heat = (((((((8)))))));");
    Run.fault(2, 14, "heat = (((((( (");
    Run.right("heat = (1+(1+(1+(1+(1+(1+1))))));");
    Run.fault(2, 25, "heat = (1+(1+(1+(1+(1+(1+(1+1)))))));");
    // those that are closed again do not count, be there ever so many
    Run.of("heat = ((((((8))))))-((((((8))))))+(1)+(2)+(3)+(4)+(5)+(6)+(7);").due(28, "heatIn", 0);
    Run.of("heat = ((((((1)+(2))))));").due(3, "heatIn", 0);
    Run.fault(2, 17, "heat = ((((((1)+((2)))))));");
    String six = "((((((1))))))";
    Run.right("heat = if " + six + " < " + six + " then " + six + " else " + six + ";");
    for (String head : new String[] {"heat = if ", "heat = if 1 < ", "heat = if 1 < 2 then ", "heat = if 1 < 2 then 3 else ", "rent = 1 * "})
      Run.fault(2, head.length() + 6, head + "(((((((1");
  }

  private static void onlyIfThereIsNone() {
    Run.fault(1, 14, "thing a 20 1; ?");
    Run.fault(1, 26, "thing a 1 1; thing a 1 1; ?");
    Run.fault(1, 12, "thing a 20 1");
    Run.fault(2, 22, "grace 0; heat = (((((((1)))))));");
    Run.fault(2, 39, "thing a 1 1; thing a 1 1; heat = (((((((1)))))));");
    // of the two the first by its place
    Run.fault(3, 18, "thing a 1 1; seat a 20 1;");
    Run.fault(5, 10, "thing a 1 0; seat a 20 1;");
  }

  private static void twice() {
    Run.fault(3, 19, "thing a 1 1; thing a 1 1;");
    Run.fault(3, 17, "seat a 1 1; seat a 1 1;");
    Run.fault(3, 18, "thing a 1 1; seat a 1 1;");
    Run.fault(3, 18, "seat a 1 1; thing a 1 1;");
    Run.fault(3, 18, "thing a 1 1; seat a 1 1; seat a 1 1;");
    Run.right("thing a 1 1; seat b 1 1; thing c 1 1;");
    String eleven = SIX_THINGS + SIX_SEATS.substring(0, SIX_SEATS.length() - 11);
    for (char name = 'a'; name <= 'k'; name++) Run.fault(3, eleven.length() + 5, eleven + "seat " + name + " 1 1;");
    Run.right(eleven + "seat l 1 1;");
    // a text knows nothing of the NAMES of the one ahead
    Run.of("thing a 1 1; seat b 1 1;").read("thing a 1 1; seat b 1 1;").due(1, "count", 0).due(1, "count", 1);
    new Run().feed("thing a 1 1; seat b 1 1; ?").due(1, "read").read("seat b 1 1;").due(1, "count", 1);
  }

  private static void wrong() {
    Run.fault(5, 9, "thing  a\t20 1;");
    Run.fault(5, 11, "thing a 19 10;");
    Run.fault(5, 8, "seat a  20 1;");
    Run.fault(5, 9, "seat a 1 1000;");
    Run.fault(5, 8, "grace   100;");
    Run.fault(5, 5, "grace0;");
    Run.fault(5, 6, "winds 101;");
    Run.fault(5, 7, "begins 24;");
    Run.fault(5, 20, "thing a 19 9; grace 100;");
  }

  private static void aFaultChangesNothing() {
    String[] faulty = {"seat q 1 1; ?", "heat = (((((((1)))))));", "seat q 1 1; seat q 1 1;", "seat q 1 1; grace 0;"};
    int[] numbers = {1, 2, 3, 5};
    int[] places = {12, 13, 17, 18};
    for (int i = 0; i < 4; i++) {
      Run x = Run.busy().done("back", 20).feed(faulty[i]).due(numbers[i], "read").due(places[i], "place").due(0, "count", 9);
      x.likeButForPlace(Run.busy().done("back", 20), "behind a text with FAULT " + numbers[i]);
    }
    // nor does anything of it come into the next one
    String[] begun = {"thing a 1 1; seat b 1 1; heat = 7; grace 9; winds 100; begins 9; seed 9; ?", "heat = (((((((1", "seat q 1 1; seat q"};
    for (String text : begun) {
      Run x = new Run().feed(text).done("read").done("place").read("thing q 3 4;");
      x.like(Run.of("thing q 3 4;"), "behind '" + text + "'");
    }
  }

  private static void inPlaceOfTheOneAhead() {
    // with loans, and once they are GONE
    Run.busy().due(2, "count", 5).done("back", 20).read(Run.NOON).due(0, "count", 5).due(0, "count", 6).due(-2, "loan", 0, 0, 0)
        .due(0, "seat", 0, 3)
        .like(Run.of(Run.NOON), "behind loans");
    Run.busy().done("hours", 2).done("back", 20).read(Run.NOON).done("lend", 0, 0, 10).due(0, "loan", 0, 0, 1)
        .like(Run.of(Run.NOON).done("lend", 0, 0, 10), "a loan anew");
    for (String text : new String[] {"", "seat q 3 7; begins 5;", Run.NOON}) {
      Run x = Run.busy().done("hours", 4).done("hold", 0).done("hold", 2).done("back", 20).read(text);
      x.due(0, "count", 5).due(0, "count", 6).due(0, "count", 8).due(0, "count", 10).due(0, "count", 11).due(0, "count", 12)
          .due(0, "count", 14);
      x.due(0, "undo").due(0, "restore", 0).due(0, "restore", 1).due(0, "restore", 2).due(0, "forget");
      x.due(text.isEmpty() ? 0 : text.equals(Run.NOON) ? 10 : 5, "count", 2);
      x.like(Run.of(text), "behind the text '" + text + "'");
    }
  }

  // ---- promises 1 to 5

  private static void aNewObject() {
    Run x = new Run();
    for (int what = 0; what <= 16; what++) x.due(0, "count", what);
    x.due(-1, "place").due(-1, "thing", 0, 0).due(-1, "seat", 0, 0).due(-1, "loan", 0, 0, 0).due(0, "undo").due(0, "restore", 0)
        .due(0, "forget");
    new Run().like(Run.of(""), "a new object");
    new Run().due(0, "heatIn", 0).due(23, "heatIn", 23).due(0, "heatIn", 24).due(48, "hours", 48).due(1, "undo").due(0, "undo");
  }

  private static void manyCalls() {
    Run x = Run.of("thing a 1 1; seat s 1 9; heat = 5;").done("lend", 0, 0, 5);
    for (int hour = 1; x.calls() < 511; hour++) x.due(hour, "hours", 1);
    x.due(30, "count", 10);
  }

  private static void highestByteFirst() {
    new Run().due(20, "feed", 0x73656564, 0x20313b20, 0x20202020, 0x20202020, 0x20202020).due(0, "read");
    new Run().due(20, "feed", 0x20202020, 0x20202020, 0x20202020, 0x20202073, 0x65617420)
        .due(40, "feed", 0x71203139, 0x20393939, 0x3b202020, 0x20202020, 0x20202020).due(0, "read").due(19, "seat", 0, 0)
        .due(999, "seat", 0, 1);
    // a byte above 127 is no other one, nor does it touch its neighbours
    for (int at = 0; at < 4; at++) {
      int word = 0x20202020 | 0xff << 24 - 8 * at;
      new Run().due(20, "feed", word, -1, -1, -1, -1).due(1, "read").due(at, "place");
      new Run().due(20, "feed", 0x20202020, 0x20202020, 0x20202020, 0x20202020, word).due(1, "read").due(16 + at, "place");
    }
  }

  private static void feedBeyond() {
    Run x = new Run();
    for (int i = 1; i <= 100; i++) x.due(20 * i, "feed", 0x20202020, 0x20202020, 0x20202020, 0x20202020, 0x20202020);
    x.due(-1, "feed", -1, -1, -1, -1, -1).due(2000, "count", 9);
    for (int n = 1; n < 20; n++) x.due(2000 - n, "back", 1).due(-1, "feed", -1, -1, -1, -1, -1).due(2000 - n, "count", 9);
    x.due(1980, "back", 1).due(2000, "feed", 0x20202020, 0x20202020, 0x20202020, 0x20202020, 0x20202020).due(0, "read");
    x.due(0, "count", 9).due(20, "feed", 0, 0, 0, 0, 0);
  }

  private static void backBeyond() {
    new Run().due(0, "back", 0).due(-1, "back", 1).due(-1, "back", -1).due(0, "count", 9);
    Run x = new Run().feed("seat q 1 7; seed 3; ");
    for (int n : new int[] {21, 22, 2000, Integer.MAX_VALUE, -1, -20, Integer.MIN_VALUE}) x.due(-1, "back", n).due(20, "count", 9);
    x.due(20, "back", 0).due(0, "read").due(7, "seat", 0, 1);
    Run y = new Run().feed("seat q 1 7; seed 3; ").due(0, "back", 20).due(-1, "back", 1).due(0, "read").due(0, "count", 1);
    y.feed("seat q 1 7; seed 3; ").due(1, "back", 19).due(1, "read").due(0, "place");
    // the last ones go, not the first
    new Run().feed("seat q 1 7; seed 3; ").due(11, "back", 9).due(0, "read").due(1, "count", 1);
    for (int n : new int[] {21, -1, Integer.MIN_VALUE, Integer.MAX_VALUE}) Run.unchanged(Run::busy, -1, "back", n);
  }

  private static void readEmpties() {
    new Run().due(0, "read").due(0, "count", 9).due(0, "read");
    new Run().feed("seat q 1 7;").due(11, "count", 9).due(0, "read").due(0, "count", 9).due(1, "count", 1);
    new Run().feed("seat q 1 7").due(1, "read").due(0, "count", 9).due(0, "read").due(0, "count", 1);
    // what comes behind a read has nothing of what was ahead of it
    new Run().feed("seat q 1 7").due(1, "read").feed(";").due(1, "read").due(0, "place");
    new Run().feed("?".repeat(2000)).due(1, "read").due(20, "feed", 0x20202020, 0x20202020, 0x20202020, 0x20202020, 0x20202020)
        .due(0, "read");
  }

  private static void placeOfTheLatest() {
    Run x = new Run().due(-1, "place").feed("seed ?").due(-1, "place").due(1, "read").due(5, "place").due(5, "place");
    x.feed("grace 0;").due(5, "place").due(5, "read").due(6, "place");
    x.feed("?").due(1, "read").due(0, "place").due(0, "read").due(-1, "place");
    x.feed("seed").due(1, "read").due(4, "place").done("hours", 1).due(4, "place").due(1, "undo").due(4, "place");
  }
}
