/** The bounds that part II and promises 6 to 14 name, a test for each sentence: LAWS, HOURS, loans, what is done and undone. */
public final class HoursBoundsTest {
  /** One THING and one SEAT at the same X; all is SEEN. */
  private static final String PAIR = "thing a 9 4; seat s 9 999; heat = 5;";

  public static void main(String[] args) {
    laws();
    looks();
    hours();
    promisesOfWhatIs();
    promisesOfWhatIsDone();
    Run.end();
  }

  private static void laws() {
    Run.test("HOURS are counted on from BEGINS on; the hour of the day: its rest by 24; the day: it by 24.", HoursBoundsTest::dayAndHour);
    Run.test("LAWS: the E of the first if that holds (one less than the other), else the last one;", HoursBoundsTest::firstIfThatHolds);
    Run.test("ints of 32 bits that wrap,", HoursBoundsTest::wraps);
    Run.test("/ rounded towards 0;", HoursBoundsTest::towardsZero);
    Run.test("a LAW in which something that is looked at is divided by 0 is 0;", HoursBoundsTest::dividedByZero);
    Run.test("a VAR not told for a LAW is 0 in it;", HoursBoundsTest::varsNotTold);
    Run.test("HEAT, held to 0 .. 99.", HoursBoundsTest::heatHeld);
  }

  private static void looks() {
    Run.test("far: how far apart the two X are;", HoursBoundsTest::farApart);
    Run.test("side: 1 if it is at a greater X than from which one looks, else 0;", HoursBoundsTest::sides);
    Run.test("SEEN if the LAW tells more than 0;", HoursBoundsTest::moreThanZero);
    Run.test("it is SEEN at its X and as much more, the way away from where one looks (at the same X: X more), as MOVED tells,",
        HoursBoundsTest::theWayAway);
    Run.test("as MOVED tells, held to -9 .. 9", HoursBoundsTest::movedHeld);
    Run.test("(X is held to 0 .. 19);", HoursBoundsTest::seenWithinTheFlat);
    Run.test("RENT (lent too: how much), held to 0 .. 99.", HoursBoundsTest::rentHeld);
    Run.test("INTEREST (lent, warm): how many of 100 a loan is more by after an hour, held to 0 .. 99.", HoursBoundsTest::interestHeld);
    Run.test("In a WIND (LOT 100 of the SEED and 4 * the hour, counted on, is less than WINDS) nothing is SEEN in that HOUR.",
        HoursBoundsTest::lessThanWinds);
    Run.test("(32 bits that wrap).", HoursBoundsTest::lotWraps);
  }

  private static void hours() {
    Run.test("A SEAT LENDS on a THING (once, till that is over).", HoursBoundsTest::onceTillItIsOver);
    Run.test("if it SEES it, it gets RENT (COINS 99,999 at most),", HoursBoundsTest::mostCoins);
    Run.test("and it is unseen 0 hours;", HoursBoundsTest::unseenAnew);
    Run.test("else it is unseen 1 hour more, and if that is as much as GRACE, the loan is GONE (lost);", HoursBoundsTest::goneByGrace);
    Run.test("else the loan is more by INTEREST (rounded down; 99,999 at most).", HoursBoundsTest::moreByInterest);
    Run.test("It is the next hour.", HoursBoundsTest::theNextHour);
    Run.test("a SEAT LENDS n of its COINS on a THING that it SEES (no WIND looked at);", HoursBoundsTest::noWindByHand);
  }

  private static void promisesOfWhatIs() {
    Run.test("Of a THING: what 0 X, 1 TALL, 2 SEATS that SEE it now (bits, no WIND looked at), 3 SEATS that lent on it (bits). NONE for others.",
        HoursBoundsTest::thingAnswers);
    Run.test("Of a SEAT: what 0 X, 1 COINS, 2 THINGS that it SEES now (bits, no WIND looked at), 3 THINGS on which it lent (bits), "
        + "4 what it lent, all together, as it is, 5 loans that are GONE so far, 6 what it got as RENT so far. NONE for others.",
        HoursBoundsTest::seatAnswers);
    Run.test("Of a loan: what 0 how much is lent, 1 for how many hours it is unseen; -2: there is none; NONE: no such ones.",
        HoursBoundsTest::loanAnswers);
    Run.test("What a LAW tells now: what 0 HEAT, from an X (0 .. 19) of a THING 1 MOVED, 2 RENT for n lent (0 .. 999), 3 INTEREST of n "
        + "(X, THING not looked at for 0 and 3); -100: no such ones.", HoursBoundsTest::tellsAnswers);
  }

  private static void promisesOfWhatIsDone() {
    Run.test("LENDS n (1 .. 999): COINS then;", HoursBoundsTest::lendTaken);
    Run.test("-2, and nothing happens: not so many, it lent on it already, it does not SEE it; NONE: no such ones.", HoursBoundsTest::lendRefused);
    Run.test("CALLS a loan: what it gets;", HoursBoundsTest::callTaken);
    Run.test("-2, and nothing happens: there is none, it does not SEE it, more than 99,999 COINS; NONE: no such ones.", HoursBoundsTest::callRefused);
    Run.test("MOVED: true; false, and nothing happens: it is there, no such ones.", HoursBoundsTest::moves);
    Run.test("n HOURS (0 .. 48; 0 is no thing done) go by: which it is, counted on; NONE, and nothing happens: no such n.", HoursBoundsTest::hoursGoBy);
    Run.test("The last thing done (lend, call, move, hours) is undone: true; false: there is none", HoursBoundsTest::undoes);
    Run.test("(the last 30 can be).", HoursBoundsTest::thirtyCanBeUndone);
  }

  // ---- LAWS

  private static void dayAndHour() {
    for (int begins : new int[] {0, 1, 22, 23}) {
      Run x = Run.of("heat = hour; rent = day; thing a 1 1; begins " + begins + ";");
      for (int hour = begins; hour < begins + 50; hour++) {
        x.due(hour, "count", 2).due(hour % 24, "count", 3).due(hour / 24, "count", 4).due(hour % 24, "count", 15);
        x.due(hour / 24, "tells", 2, 0, 0, 0).due(hour + 1, "hours", 1);
      }
    }
    // the day is no day of a week, nor is it held to anything
    Run x = Run.of("heat = day - 100; begins 23;");
    for (int i = 0; i < 100; i++) x.done("hours", 48);
    x.due(4823, "count", 2).due(23, "count", 3).due(200, "count", 4).due(99, "count", 15).done("hours", 1).due(201, "count", 4)
        .due(0, "count", 3);
  }

  private static void heatIs(int want, String law) { Run.of("heat = " + law + ";").due(want, "heatIn", 0); }

  private static void firstIfThatHolds() {
    heatIs(4, "if 1 < 2 then 4 else 5");
    heatIs(5, "if 2 < 2 then 4 else 5");
    heatIs(5, "if 3 < 2 then 4 else 5");
    heatIs(4, "if 0 - 1 < 0 then 4 else 5");
    heatIs(5, "if 0 < 0 - 1 then 4 else 5");
    String[] holds = {"2", "1"};
    for (int which = 0; which <= 4; which++) {
      StringBuilder law = new StringBuilder();
      for (int i = 0; i < 4; i++) law.append("if 1 < ").append(holds[i == which ? 0 : 1]).append(" then ").append(11 + i).append(" else ");
      heatIs(11 + which, law + "15");
      // once one holds the ones behind it do not count
      heatIs(which < 4 ? 11 + which : 0, law + "1 / 0");
    }
    heatIs(11, "if 1 < 2 then 11 else if 1 < 2 then 12 else if 1 < 2 then 13 else if 1 < 2 then 14 else 15");
    heatIs(12, "if 1 < 1 then 11 else if 1 < 2 then 12 else if 1 < 2 then 13 else if 1 < 2 then 14 else 15");
  }

  private static void wraps() {
    // 8192 * 8192 * 32 is 2 to the 31: one more than the greatest, which is the least
    String least = "8192 * 8192 * 32";
    heatIs(0, least);
    heatIs(99, least + " - 1");
    heatIs(7, "if " + least + " < 0 then 7 else 8");
    heatIs(8, "if " + least + " - 1 < 0 then 7 else 8");
    heatIs(7, "if 0 < " + least + " - 1 then 7 else 8");
    heatIs(8, "if 0 < " + least + " - 1 + 1 then 7 else 8");
    heatIs(7, "if " + least + " < " + least + " - 1 then 7 else 8");
    // 2 to the 32 is 0, and 5 more is 5
    heatIs(0, "8192 * 8192 * 64");
    heatIs(5, "8192 * 8192 * 64 + 5");
    heatIs(5, "8192 * 8192 * 64 * 9999 + 5");
    // 0 less the least, and the least by -1, are the least again
    heatIs(7, "if 0 - " + least + " < 0 then 7 else 8");
    heatIs(7, "if " + least + " / (0 - 1) < 0 then 7 else 8");
    heatIs(0, least + " / (0 - 1)");
    heatIs(1, "(" + least + " / (0 - 1)) / (" + least + ")");
    // the other LAWS likewise
    Run x = Run.of("thing a 9 4; seen = " + least + "; moved = " + least + "; rent = " + least + " - 1; interest = " + least + " - 1;");
    x.due(-2, "sight", 9, 0, 0).due(-9, "tells", 1, 9, 0, 0).due(99, "tells", 2, 9, 0, 0).due(99, "tells", 3, 9, 0, 0);
    x = Run.of("thing a 9 4; seen = " + least + " - 1; moved = " + least + " - 1; rent = " + least + "; interest = " + least + ";");
    x.due(18, "sight", 9, 0, 0).due(9, "tells", 1, 9, 0, 0).due(0, "tells", 2, 9, 0, 0).due(0, "tells", 3, 9, 0, 0);
  }

  private static void towardsZero() {
    heatIs(3, "7 / 2");
    heatIs(7, "10 + (0 - 7) / 2");
    heatIs(7, "10 + 7 / (0 - 2)");
    heatIs(13, "10 + (0 - 7) / (0 - 2)");
    heatIs(10, "10 + (0 - 1) / 2");
    heatIs(10, "10 + 1 / 2");
    heatIs(0, "0 / 5");
    heatIs(8, "10 + (0 - 4) / 2");
    heatIs(9, "10 + (0 - 3) / 2");
    // from the left on
    heatIs(2, "20 / 5 / 2");
    heatIs(8, "20 / 5 * 2");
    heatIs(6, "7 * 2 / 2 - 1");
    heatIs(12, "20 - 5 - 3");
    heatIs(18, "20 - 5 + 3");
    heatIs(10, "20 - 5 * 2");
    heatIs(30, "(20 - 5) * 2");
  }

  private static void dividedByZero() {
    for (String law : new String[] {"1 / 0", "0 / 0", "7 + 1 / 0", "1 / 0 + 7", "0 * (1 / 0) + 7", "1 / 0 * 0 + 7", "7 / (2 - 2)", "7 / day", "9 / (1 / 2)",
        "if 1 / 0 < 2 then 7 else 8", "if 0 - 1 < 1 / 0 then 7 else 8", "if 9 < 1 / 0 then 7 else 8", "if 1 < 2 then 7 / 0 else 8",
        "if 2 < 1 then 7 else 8 / 0", "if 2 < 1 then 7 else if 1 / 0 < 2 then 8 else 9", "7 + (8 + (9 + (1 / 0)))"}) heatIs(0, law);
    for (String law : new String[] {"7 / 1", "if 1 < 2 then 7 else 8 / 0", "if 2 < 1 then 8 / 0 else 7", "if 1 < 2 then 7 else if 1 / 0 < 2 then 8 else 9",
        "if 2 < 1 then 1 / 0 else if 1 < 2 then 7 else 1 / 0", "7 + 0 / 1", "7 / (day + 1)"}) heatIs(7, law);
    // all LAWS: nothing is SEEN, it is not moved, there is no RENT and no INTEREST
    Run x = Run.of("thing a 9 4; seen = 7 / (far - 1); moved = 7 / (far - 2); rent = 7 / (far - 3); interest = 7 / lent;");
    x.due(-2, "sight", 8, 0, 0).due(-2, "sight", 10, 0, 0).due(-2, "sight", 9, 0, 0);
    x.due(9, "sight", 7, 0, 0).due(0, "tells", 1, 7, 0, 0).due(0, "tells", 1, 11, 0, 0).due(7, "tells", 1, 6, 0, 0)
        .due(16, "sight", 6, 0, 0);
    x.due(0, "tells", 2, 6, 0, 0).due(0, "tells", 2, 12, 0, 0).due(7, "tells", 2, 5, 0, 0).due(0, "tells", 2, 7, 0, 0);
    x.due(0, "tells", 3, 0, 0, 0).due(7, "tells", 3, 0, 0, 1);
    // one LAW that is divided by 0 does not touch the others
    Run.of("thing a 9 4; heat = 1 / 0; seen = 1; rent = 6;").due(0, "heatIn", 0).due(9, "sight", 0, 0, 0).due(6, "tells", 2, 0, 0, 0);
  }

  private static void varsNotTold() {
    String[] vars = {"hour", "day", "warm", "far", "tall", "across", "lent", "side", "at"};
    // it is hour 3 of day 1, the HEAT is 33, one looks from 2 at what stands at 9, and 20 are lent
    int[] told = {3, 1, 33, 7, 4, 9, 20, 1, 2};
    String[] laws = {"heat", "moved", "rent", "interest"};
    boolean[][] isTold = {{true, true, false, false, false, false, false, false, false}, {true, true, true, true, true, true, false, true, true},
        {true, true, true, true, true, true, true, true, true}, {true, true, true, false, false, false, true, false, false}};
    for (int law = 0; law < 4; law++)
      for (int var = 0; var < 9; var++) {
        int want = isTold[law][var] ? told[var] : 0;
        Run x = Run.of("thing a 9 4; heat = 33; begins 3; " + laws[law] + " = 5 + " + vars[var] + " - " + want + ";").done("hours", 24);
        x.due(5, "tells", law, 2, 0, 20);
      }
    // SEEN: it tells more than 0, or just 0
    for (int var = 0; var < 9; var++) {
      int want = vars[var].equals("lent") ? 0 : told[var];
      Run.of("thing a 9 4; heat = 33; begins 3; seen = " + vars[var] + " - " + want + ";").done("hours", 24).due(-2, "sight", 2, 0, 0);
      Run.of("thing a 9 4; heat = 33; begins 3; seen = " + vars[var] + " + 1 - " + want + ";").done("hours", 24).due(9, "sight", 2, 0, 0);
    }
    // INTEREST in an HOUR: it is hour 3, 100 are lent, one sits at 2
    for (int var = 0; var < 9; var++) {
      int want = new int[] {3, 0, 33, 0, 0, 0, 100, 0, 0}[var];
      Run x = Run.of("thing a 9 4; seat s 2 100; heat = 33; winds 100; begins 3; interest = 5 + " + vars[var] + " - " + want + ";");
      x.done("lend", 0, 0, 100).done("hours", 1).due(105, "loan", 0, 0, 0);
    }
    // also right behind what was lent was looked at
    Run x = Run.of("thing a 9 4; thing b 9 4; seat s 9 99; heat = 33; seen = 1 - lent; moved = lent; interest = far + tall + across + at + side;")
        .done("lend", 0, 0, 50).done("lend", 0, 1, 9).done("hours", 3);
    x.due(24, "seat", 0, 6).due(9, "sight", 9, 1, 0).due(4, "tells", 2, 9, 0, 50).due(0, "tells", 1, 9, 0, 50).due(0, "tells", 3, 9, 0, 50)
        .due(3, "seat", 0, 2);
  }

  private static void heatHeld() {
    heatIs(0, "0 - 1");
    heatIs(0, "0");
    heatIs(1, "1");
    heatIs(98, "98");
    heatIs(99, "99");
    heatIs(99, "100");
    heatIs(99, "9999");
    heatIs(0, "0 - 9999");
    // warm is what it is held to
    Run x = Run.of("thing a 9 4; heat = 150; rent = warm - 50; interest = warm - 60;");
    x.due(99, "count", 15).due(99, "tells", 0, 0, 0, 0).due(49, "tells", 2, 0, 0, 0).due(39, "tells", 3, 0, 0, 0);
    x = Run.of("thing a 9 4; heat = 0 - 150; rent = warm + 50; interest = warm + 60;");
    x.due(0, "count", 15).due(50, "tells", 2, 0, 0, 0).due(60, "tells", 3, 0, 0, 0);
  }

  // ---- from an X at a THING

  private static void farApart() {
    Run x = Run.of("thing a 0 1; thing b 19 1; thing c 9 1; rent = far;");
    for (int from = 0; from < 20; from++)
      x.due(from, "tells", 2, from, 0, 0).due(19 - from, "tells", 2, from, 1, 0).due(Math.abs(9 - from), "tells", 2, from, 2, 0);
  }

  private static void sides() {
    Run x = Run.of("thing a 0 1; thing b 19 1; thing c 9 1; rent = side + 5;");
    for (int from = 0; from < 20; from++)
      x.due(5, "tells", 2, from, 0, 0).due(from < 19 ? 6 : 5, "tells", 2, from, 1, 0).due(from < 9 ? 6 : 5, "tells", 2, from, 2, 0);
  }

  private static void moreThanZero() {
    int[] want = {-2, -2, -2, 9, 9};
    for (int i = 0; i < 5; i++) Run.of("thing a 9 4; seen = " + i + " - 2;").due(want[i], "sight", 0, 0, 0);
    // HEAT 5: from 4 away it is SEEN, from 5 it is not
    Run x = Run.of("thing a 9 4; seat s 5 1; seat u 4 1; seat v 13 1; seat w 14 1; heat = 5;");
    x.due(5, "thing", 0, 2).due(1, "seat", 0, 2).due(0, "seat", 1, 2).due(1, "seat", 2, 2).due(0, "seat", 3, 2);
  }

  private static void theWayAway() {
    Run x = Run.of("thing a 9 4; seen = 1; moved = 3;");
    x.due(12, "sight", 0, 0, 0).due(12, "sight", 8, 0, 0).due(12, "sight", 9, 0, 0).due(6, "sight", 10, 0, 0).due(6, "sight", 19, 0, 0);
    x = Run.of("thing a 9 4; seen = 1; moved = 0 - 3;");
    x.due(6, "sight", 0, 0, 0).due(6, "sight", 8, 0, 0).due(6, "sight", 9, 0, 0).due(12, "sight", 10, 0, 0).due(12, "sight", 19, 0, 0);
    x = Run.of("thing a 9 4; seen = 1;");
    x.due(9, "sight", 0, 0, 0).due(9, "sight", 9, 0, 0).due(9, "sight", 19, 0, 0);
  }

  private static void movedHeld() {
    int[] told = {8, 9, 10, 9999};
    for (int moved : told) {
      int held = Math.min(moved, 9);
      Run.of("thing a 9 4; seen = 1; moved = " + moved + ";").due(held, "tells", 1, 3, 0, 0).due(held, "tells", 1, 12, 0, 0)
          .due(9 + held, "sight", 3, 0, 0).due(9 - held, "sight", 12, 0, 0);
      Run.of("thing a 9 4; seen = 1; moved = 0 - " + moved + ";").due(-held, "tells", 1, 3, 0, 0).due(-held, "tells", 1, 12, 0, 0)
          .due(9 - held, "sight", 3, 0, 0).due(9 + held, "sight", 12, 0, 0);
    }
  }

  private static void seenWithinTheFlat() {
    for (int moved = 0; moved <= 9; moved++) {
      Run x = Run.of("thing a 15 4; thing b 4 1; seen = 1; moved = " + moved + ";");
      x.due(Math.min(19, 15 + moved), "sight", 0, 0, 0).due(Math.max(0, 4 - moved), "sight", 19, 1, 0);
      Run y = Run.of("thing a 15 4; thing b 4 1; seen = 1; moved = 0 - " + moved + ";");
      y.due(Math.min(19, 15 + moved), "sight", 19, 0, 0).due(Math.max(0, 4 - moved), "sight", 0, 1, 0);
    }
    Run x = Run.of("thing a 19 4; thing b 0 1; seen = 1; moved = 1; seat s 5 1;");
    x.due(19, "sight", 5, 0, 0).due(19, "sight", 19, 0, 0).due(0, "sight", 5, 1, 0).due(1, "sight", 0, 1, 0).due(1, "crowd", 19)
        .due(2, "crowd", 0);
  }

  private static void rentHeld() {
    int[] want = {0, 0, 1, 98, 99, 99};
    String[] laws = {"0 - 1", "0", "1", "98", "99", "100"};
    for (int i = 0; i < 6; i++) {
      Run x = Run.of(PAIR + "rent = " + laws[i] + ";").due(want[i], "tells", 2, 3, 0, 10).due(900, "lend", 0, 0, 99).done("hours", 1);
      x.due(want[i], "seat", 0, 6).due(900 + want[i], "seat", 0, 1).due(want[i], "count", 14);
    }
    // lent: 0 and 999 are asked for, and what is lent is more by INTEREST
    Run x = Run.of(PAIR + "rent = lent / 100 + lent - lent / 100 * 100;");
    x.due(0, "tells", 2, 3, 0, 0).due(1, "tells", 2, 3, 0, 1).due(99, "tells", 2, 3, 0, 99).due(1, "tells", 2, 3, 0, 100)
        .due(99, "tells", 2, 3, 0, 999);
    Run y = Run.of("thing a 9 4; seat s 9 99; heat = 5; seen = if hour < 1 then 1 else if hour < 2 then 0 else 1; interest = 10; rent = lent;");
    y.due(79, "lend", 0, 0, 20).done("hours", 1).due(20, "seat", 0, 6).done("hours", 1).due(22, "loan", 0, 0, 0).done("hours", 1)
        .due(42, "seat", 0, 6);
  }

  private static void interestHeld() {
    int[] want = {0, 0, 1, 98, 99, 99};
    String[] laws = {"0 - 1", "0", "1", "98", "99", "100"};
    for (int i = 0; i < 6; i++) {
      Run x = Run.of(PAIR + "winds 100; interest = " + laws[i] + ";").due(want[i], "tells", 3, 3, 0, 10).due(899, "lend", 0, 0, 100)
          .done("hours", 1);
      x.due(100 + want[i], "loan", 0, 0, 0).due(899, "seat", 0, 1);
    }
    // by what is lent then, and by the HEAT of the HOUR
    Run x = Run.of("thing a 9 4; seat s 9 200; heat = hour + 20; winds 100; interest = warm + lent / 100;").done("lend", 0, 0, 200);
    x.done("hours", 1).due(244, "loan", 0, 0, 0).done("hours", 1).due(244 + 56, "loan", 0, 0, 0);
  }

  /** LOT 100, by long numbers that are cut to 32 bits, another way than by ints. */
  static int lot(long seed, long which) {
    long h = seed;
    for (long it : new long[] {119, which}) {
      h = ((h ^ it) * 1103515245L + 12345L) & 0xffffffffL;
      h = h ^ h >> 15;
    }
    return (int) ((h >> 1) % 100);
  }

  private static void lessThanWinds() {
    for (int begins = 0; begins < 24; begins++) {
      int lot = lot(77, 4 * begins);
      String tell = PAIR + "grace 9; seed 77; begins " + begins + ";";
      Run x = Run.of(tell + "winds " + lot + ";").due(0, "count", 13).due(990, "lend", 0, 0, 9).done("hours", 1);
      x.due(0, "loan", 0, 0, 1).due(4, "seat", 0, 6);
      Run y = Run.of(tell + "winds " + (lot + 1) + ";").due(1, "count", 13).due(990, "lend", 0, 0, 9).done("hours", 1);
      y.due(1, "loan", 0, 0, 1).due(0, "seat", 0, 6);
    }
    // the hour is counted on: a day later it is another LOT
    Run x = Run.of("winds 50; seed 9999; begins 23;");
    for (int hour = 23; hour < 180; hour++) x.due(lot(9999, 4 * hour) < 50 ? 1 : 0, "count", 13).done("hours", 1);
  }

  private static void lotWraps() {
    // by ints, as the document tells it
    for (int seed = 0; seed < 9999; seed += 101)
      for (int hour = 0; hour < 24; hour++) {
        int h = seed;
        h = (h ^ 119) * 1103515245 + 12345;
        h = h ^ h >>> 15;
        h = (h ^ 4 * hour) * 1103515245 + 12345;
        h = h ^ h >>> 15;
        Run.same("LOT of " + seed + " and " + 4 * hour, lot(seed, 4 * hour), (h >>> 1) % 100);
      }
    for (int seed = 1; seed < 9999; seed += 909) {
      int lot = lot(seed, 4 * 7);
      Run.of("begins 7; seed " + seed + "; winds " + lot + ";").due(0, "count", 13);
      Run.of("begins 7; seed " + seed + "; winds " + (lot + 1) + ";").due(1, "count", 13);
    }
    // the winds are those of hours that are far away, too
    Run x = Run.of("winds 37; seed 1234;");
    for (int i = 1; i <= 200; i++) x.done("hours", 48).due(lot(1234, 4 * 48 * i) < 37 ? 1 : 0, "count", 13);
  }

  // ---- HOURS and loans

  private static void onceTillItIsOver() {
    Run x = Run.of(PAIR + "thing b 9 1; seat u 9 50; grace 2; winds 100;");
    x.due(998, "lend", 0, 0, 1).due(-2, "lend", 0, 0, 1).due(997, "lend", 0, 1, 1).due(49, "lend", 1, 0, 1).due(3, "count", 5);
    x.due(1, "call", 0, 0).due(993, "lend", 0, 0, 5).due(-2, "lend", 0, 0, 5);
    x.done("hours", 1).due(1, "call", 1, 0).due(48, "lend", 1, 0, 2).due(0, "loan", 1, 0, 1).due(-2, "lend", 1, 0, 2);
    x.done("hours", 1).due(2, "seat", 0, 5).due(986, "lend", 0, 0, 7).due(7, "loan", 0, 0, 0).due(0, "loan", 0, 0, 1)
        .due(-2, "lend", 0, 0, 7);
    x.due(1, "loan", 1, 0, 1).done("hours", 1).due(-2, "loan", 1, 0, 1).due(1, "loan", 0, 0, 1);
  }

  private static final String SIX = "thing a 1 1;thing b 1 1;thing c 1 1;thing d 1 1;thing e 1 1;thing f 1 1;";

  /** Six loans of one of 999, SEEN on the first seven days: it gets 6 * 99 an hour. */
  private static Run rich(String tell) {
    Run x = Run.of(SIX + "seat s 1 999; heat = 9; " + tell);
    for (int thing = 0; thing < 6; thing++) x.done("lend", 0, thing, 1);
    return x;
  }

  private static void mostCoins() {
    // 993 and 594 an hour: 99,597 behind 166 hours, then 99,999 and no more
    Run x = rich("rent = 99;").done("hours", 48).done("hours", 48).done("hours", 48).done("hours", 22);
    x.due(993 + 166 * 594, "seat", 0, 1).done("hours", 1).due(99999, "seat", 0, 1).done("hours", 1).due(99999, "seat", 0, 1)
        .due(99999, "count", 7);
    x.due(168 * 594, "seat", 0, 6).due(168 * 594, "count", 14).due(99999 + 6, "book", 0, 0).due(99999 + 6, "book", 0, 48)
        .due(99999 + 6, "rich", 48, 1);
    // just 99,999: 402 more behind 166 hours; or 396 and then 6; or one more than that
    String last = "rent = if day < 6 then 99 else if hour < 22 then 99 else if hour < 23 then 67 else 1;";
    Run y = rich(last).done("hours", 48).done("hours", 48).done("hours", 48).done("hours", 22).due(99597, "seat", 0, 1)
        .due(99999 + 6, "book", 0, 1);
    y.done("hours", 1).due(99999, "seat", 0, 1).due(98604 + 402, "seat", 0, 6).done("hours", 1).due(99999, "seat", 0, 1)
        .due(98604 + 408, "seat", 0, 6);
    Run z = rich(last.replace("67", "66")).done("hours", 48).done("hours", 48).done("hours", 48).done("hours", 23).due(99993, "seat", 0, 1);
    z.done("hours", 1).due(99999, "seat", 0, 1);
    Run w = rich(last.replace("67 else 1", "66 else 2")).done("hours", 48).done("hours", 48).done("hours", 48).done("hours", 24);
    w.due(99999, "seat", 0, 1).due(98604 + 408, "seat", 0, 6);
  }

  private static void unseenAnew() {
    // SEEN in even hours: it is never unseen for two hours on end
    Run x = Run.of("thing a 9 4; seat s 9 99; heat = 9; seen = 1 - hour + hour / 2 * 2; grace 2;").done("lend", 0, 0, 10);
    for (int hour = 0; hour < 20; hour++) x.due(hour + 1, "hours", 1).due(hour % 2, "loan", 0, 0, 1);
    x.due(40, "seat", 0, 6).due(0, "seat", 0, 5);
    // GRACE less 1 hours unseen, one SEEN, and all of GRACE is left again
    Run y = Run.of("thing a 9 4; seat s 9 99; heat = 9; grace 3; seen = if hour < 1 then 1 else if hour < 3 then 0 else if hour < 4 then 1 else 0;");
    y.done("lend", 0, 0, 10).done("hours", 3).due(2, "loan", 0, 0, 1).done("hours", 1).due(0, "loan", 0, 0, 1).done("hours", 2)
        .due(2, "loan", 0, 0, 1);
    y.due(0, "seat", 0, 5).done("hours", 1).due(1, "seat", 0, 5);
  }

  private static void goneByGrace() {
    for (int grace = 1; grace <= 4; grace++) {
      Run x = Run.of(PAIR + "winds 100; interest = 50; grace " + grace + ";").done("lend", 0, 0, 100);
      int lent = 100;
      for (int hour = 1; hour < grace; hour++) {
        lent += lent / 2;
        x.done("hours", 1).due(hour, "loan", 0, 0, 1).due(lent, "loan", 0, 0, 0).due(0, "count", 8);
      }
      x.done("hours", 1).due(-2, "loan", 0, 0, 1).due(-2, "loan", 0, 0, 0).due(1, "count", 8).due(1, "seat", 0, 5);
      // lost: nothing of it comes back
      x.due(899, "seat", 0, 1).due(0, "seat", 0, 4).due(0, "seat", 0, 3).due(0, "count", 5).due(0, "count", 6).due(-2, "call", 0, 0);
      x.done("hours", 48).due(1, "count", 8);
    }
    // the HOURS of a long call count like those of short ones
    Run.of(PAIR + "winds 100; grace 99;").done("lend", 0, 0, 100).done("hours", 48).done("hours", 48).done("hours", 2)
        .due(98, "loan", 0, 0, 1)
        .done("hours", 48).due(-2, "loan", 0, 0, 1);
  }

  private static void moreByInterest() {
    int[][] rows = {{1, 99, 1}, {2, 49, 2}, {2, 50, 3}, {9, 10, 9}, {10, 10, 11}, {19, 10, 20}, {101, 99, 200},
        {999, 99, 1988}, {999, 1, 1008}, {99, 1, 99}, {100, 1, 101}};
    for (int[] row : rows)
      Run.of(PAIR + "winds 100; interest = " + row[1] + ";").done("lend", 0, 0, row[0]).done("hours", 1).due(row[2], "loan", 0, 0, 0);
    // 999 and 99 of 100 an hour, till there are 99,999
    Run x = Run.of(PAIR + "winds 100; grace 99; interest = 99;").done("lend", 0, 0, 999);
    long lent = 999;
    for (int hour = 1; hour <= 12; hour++) {
      lent = Math.min(99999, lent + lent * 99 / 100);
      x.due(lent, "lentIn", 0, 0, 1).done("hours", 1).due(lent, "loan", 0, 0, 0);
    }
    Run.same("lent at most", lent, 99999);
    x.due(99999, "seat", 0, 4).due(99999, "count", 6);
    // by so many of 100 it comes to so much behind so many hours, then by so many to 99,998, to 99,999, to 100,000, which is too much
    int[][] edges = {{97, 724, 7, 83332, 20, 99998}, {99, 926, 6, 57471, 74, 99999}, {96, 527, 7, 58480, 71, 99999}};
    for (int[] row : edges) {
      Run y = Run.of(PAIR + "winds 100; interest = if lent < 51 * 1000 then " + row[0] + " else " + row[4] + ";")
          .done("lend", 0, 0, row[1]);
      y.done("hours", row[2]).due(row[3], "loan", 0, 0, 0).due(row[5], "lentIn", 0, 0, 1).done("hours", 1).due(row[5], "loan", 0, 0, 0);
    }
  }

  private static void theNextHour() {
    // what happens in an HOUR is by the hour that it is, not by the next one
    Run x = Run.of("thing a 9 4; seat s 9 99; heat = if hour < 1 then 9 else 0; rent = hour + 5; grace 9;").done("lend", 0, 0, 10);
    x.due(1, "hours", 1).due(5, "seat", 0, 6).due(0, "loan", 0, 0, 1).due(2, "hours", 1).due(5, "seat", 0, 6).due(1, "loan", 0, 0, 1);
    Run y = Run.of("thing a 9 4; seat s 9 99; heat = 9; rent = hour + 5; begins 23;").done("lend", 0, 0, 10);
    y.due(24, "hours", 1).due(28, "seat", 0, 6).due(25, "hours", 1).due(33, "seat", 0, 6);
  }

  private static void noWindByHand() {
    Run x = Run.of(PAIR + "winds 100;").due(1, "count", 13).due(1, "thing", 0, 2).due(1, "seat", 0, 2).due(1, "count", 16);
    x.due(994, "lend", 0, 0, 5).due(5, "call", 0, 0).due(999, "seat", 0, 1).due(9, "sight", 9, 0, 0).due(1, "crowd", 9)
        .due(0, "near", 9, 0);
  }

  // ---- promises 6 to 9

  /** Six by six, all of which is SEEN though there is a WIND. */
  private static Run full() {
    StringBuilder text = new StringBuilder(SIX + "heat = 30; winds 100;");
    for (int i = 0; i < 6; i++) text.append("seat s").append((char) ('a' + i)).append(" ").append(i).append(" 60;");
    return Run.of(text.toString());
  }

  private static void thingAnswers() {
    Run.of(Run.NOON).due(10, "thing", 0, 0).due(5, "thing", 0, 1).due(3, "thing", 0, 2).due(0, "thing", 0, 3)
        .due(4, "thing", 1, 0).due(1, "thing", 1, 1).due(3, "thing", 1, 2).due(0, "thing", 1, 3);
    for (int what = 0; what <= 3; what++) Run.bounds(Run::busy, -1, "thing", new int[] {0, what}, 0, 0, 1);
    Run.bounds(Run::busy, -1, "thing", new int[] {1, 0}, 1, 0, 3);
    Run x = full();
    for (int seat = 0; seat < 6; seat++) {
      x.due(63, "thing", 5, 2).due((1 << seat) - 1, "thing", 5, 3).due(63, "seat", seat, 2);
      x.due(59, "lend", seat, 5, 1).due(32, "seat", seat, 3);
    }
    x.due(63, "thing", 5, 3).due(0, "thing", 0, 3).due(-1, "thing", 6, 0);
    // each SEAT alone
    String six = "seat a 0 9;seat b 4 9;seat c 8 9;seat d 12 9;seat e 16 9;seat f 19 9;heat = 1;";
    for (int seat = 0; seat < 6; seat++) {
      Run y = Run.of("thing t " + new int[] {0, 4, 8, 12, 16, 19}[seat] + " 1;" + six).due(1 << seat, "thing", 0, 2).due(0, "thing", 0, 3);
      y.done("lend", seat, 0, 1).due(1 << seat, "thing", 0, 3);
    }
    Run.of("thing t 2 1;" + six).due(0, "thing", 0, 2).due(0, "thing", 0, 3);
    Run.of("seat s 1 1;").due(-1, "thing", 0, 0).due(-1, "thing", 0, 2).due(-1, "thing", -1, 0);
  }

  private static void seatAnswers() {
    long[] first = {3, 96, 3, 1, 10, 0, 6};
    long[] second = {15, 33, 3, 2, 20, 0, 3};
    for (int what = 0; what <= 6; what++) {
      Run.busy().due(first[what], "seat", 0, what).due(second[what], "seat", 1, what);
      Run.bounds(Run::busy, -1, "seat", new int[] {0, what}, 0, 0, 1);
    }
    Run.bounds(Run::busy, -1, "seat", new int[] {1, 0}, 1, 0, 6);
    // what is lent is as it is, till it is GONE
    Run x = Run.busy().done("hours", 3).due(12, "seat", 0, 4).due(24, "seat", 1, 4).due(0, "seat", 0, 5).due(1, "seat", 0, 3)
        .due(2, "seat", 0, 2);
    x.done("hours", 1).due(0, "seat", 0, 4).due(0, "seat", 0, 3).due(1, "seat", 0, 5).due(1, "seat", 1, 5).due(102, "seat", 0, 1)
        .due(12, "seat", 0, 6);
    full().due(63, "seat", 5, 2).due(0, "seat", 5, 3).due(-1, "seat", 6, 0);
    // each THING alone
    String six = "thing a 0 1;thing b 4 1;thing c 8 1;thing d 12 1;thing e 16 1;thing f 19 1;heat = 1;";
    for (int thing = 0; thing < 6; thing++) {
      Run y = Run.of("seat s " + new int[] {0, 4, 8, 12, 16, 19}[thing] + " 9;" + six).due(1 << thing, "seat", 0, 2).due(0, "seat", 0, 3);
      y.done("lend", 0, thing, 1).due(1 << thing, "seat", 0, 3);
    }
    Run.of("thing a 1 1;").due(-1, "seat", 0, 0).due(-1, "seat", 0, 6).due(-1, "seat", -1, 0);
    Run.of("seat s 1 1;").due(0, "seat", 0, 2).due(0, "seat", 0, 3).due(0, "seat", 0, 4);
  }

  private static void loanAnswers() {
    Run.busy().due(10, "loan", 0, 0, 0).due(0, "loan", 0, 0, 1).due(20, "loan", 1, 1, 0).due(-2, "loan", 0, 1, 0).due(-2, "loan", 1, 0, 1);
    Run.busy().done("hours", 3).due(12, "loan", 0, 0, 0).due(2, "loan", 0, 0, 1).done("hours", 1).due(-2, "loan", 0, 0, 0)
        .due(-2, "loan", 0, 0, 1);
    for (int thing = 0; thing <= 1; thing++) {
      Run.bounds(Run::busy, -1, "loan", new int[] {0, thing, 0}, 0, 0, 1);
      Run.bounds(Run::busy, -1, "loan", new int[] {0, 0, thing}, 1, 0, 1);
      Run.bounds(Run::busy, -1, "loan", new int[] {0, thing, 0}, 2, 0, 1);
    }
    full().due(-2, "loan", 5, 5, 0).due(-1, "loan", 6, 5, 0).due(-1, "loan", 5, 6, 0).due(59, "lend", 5, 5, 1).due(1, "loan", 5, 5, 0);
  }

  private static void tellsAnswers() {
    Run.busy().due(12, "tells", 0, 0, 0, 0).due(3, "tells", 1, 0, 0, 0).due(5, "tells", 2, 0, 0, 0).due(5, "tells", 2, 0, 0, 9)
        .due(6, "tells", 2, 0, 0, 10)
        .due(1, "tells", 2, 19, 1, 0).due(99, "tells", 2, 19, 1, 999).due(10, "tells", 3, 0, 0, 0).due(10, "tells", 3, 0, 0, 999);
    for (int what = 1; what <= 2; what++) {
      Run.bounds(Run::busy, -100, "tells", new int[] {what, 0, 0, 0}, 1, 0, 19);
      Run.bounds(Run::busy, -100, "tells", new int[] {what, 0, 0, 0}, 2, 0, 1);
      Run.bounds(Run::busy, -100, "tells", new int[] {what + 1, 0, 0, 0}, 3, 0, 999);
    }
    Run.bounds(Run::busy, -100, "tells", new int[] {0, 0, 0, 0}, 0, 0, 3);
    Run x = Run.busy();
    for (int any : new int[] {-1, 20, 2, 1000, Integer.MIN_VALUE, Integer.MAX_VALUE}) {
      x.due(12, "tells", 0, any, 0, 0).due(12, "tells", 0, 0, any, 0).due(12, "tells", 0, any, any, any);
      x.due(10, "tells", 3, any, 0, 0).due(10, "tells", 3, 0, any, 0).due(10, "tells", 3, any, any, 999);
      x.due(3, "tells", 1, 0, 0, any);
    }
    Run.of("heat = 7; interest = 8;").due(7, "tells", 0, 0, 0, 0).due(8, "tells", 3, 0, 0, 0).due(-100, "tells", 1, 0, 0, 0)
        .due(-100, "tells", 2, 0, 0, 0);
  }

  // ---- promises 10 to 14

  /** It is 12, and but for b from s nothing is SEEN. */
  private static Run evening() { return Run.busy().done("hours", 1); }

  private static void lendTaken() {
    Run.of(PAIR).due(0, "lend", 0, 0, 999).due(999, "loan", 0, 0, 0).due(0, "seat", 0, 1).due(1, "count", 10);
    Run.of(PAIR).due(998, "lend", 0, 0, 1).due(1, "loan", 0, 0, 0);
    Run.of("thing a 9 4; heat = 5; seat s 9 1;").due(0, "lend", 0, 0, 1).due(1, "loan", 0, 0, 0);
    Run.busy().due(0, "lend", 1, 0, 33).due(33, "loan", 1, 0, 0).due(0, "loan", 1, 0, 1).due(3, "count", 5).due(5, "count", 10);
    // RENT may bring more COINS than can be lent at once
    Run x = Run.of(PAIR + "rent = 99;").done("lend", 0, 0, 9).done("hours", 20).due(990 + 1980, "seat", 0, 1).due(9, "call", 0, 0);
    x.due(-1, "lend", 0, 0, 1000).due(2979 - 999, "lend", 0, 0, 999);
  }

  private static void lendRefused() {
    Run.unchanged(Run::busy, -2, "lend", 1, 0, 34);
    Run.unchanged(Run::busy, -2, "lend", 1, 0, 999);
    Run.unchanged(() -> Run.busy().done("lend", 1, 0, 33), -2, "lend", 1, 1, 1);
    Run.unchanged(() -> Run.of("thing a 9 4; heat = 5; seat s 9 0;"), -2, "lend", 0, 0, 1);
    Run.unchanged(Run::busy, -2, "lend", 0, 0, 1);
    Run.unchanged(HoursBoundsTest::evening, -2, "lend", 1, 0, 1);
    evening().due(101, "lend", 0, 1, 1);
    // HEAT 3: from 3 away it is not SEEN, from 2 it is
    Run.unchanged(() -> evening().done("move", 1, 13), -2, "lend", 1, 0, 1);
    evening().done("move", 1, 12).due(35, "lend", 1, 0, 1);
    Run.bounds(Run::busy, -1, "lend", new int[] {0, 1, 5}, 0, 0, 1);
    Run.bounds(Run::busy, -1, "lend", new int[] {0, 1, 5}, 1, 0, 1);
    Run.bounds(Run::busy, -1, "lend", new int[] {0, 1, 5}, 2, 1, 999);
    new Run().due(-1, "lend", 0, 0, 1).due(0, "count", 10);
  }

  private static void callTaken() {
    Run x = Run.busy().due(10, "call", 0, 0).due(106, "seat", 0, 1).due(-2, "loan", 0, 0, 0).due(1, "count", 5).due(5, "count", 10)
        .due(0, "count", 8);
    x.due(-2, "call", 0, 0).due(5, "count", 10);
    Run.busy().done("hours", 3).done("move", 0, 8).due(12, "call", 0, 0).due(114, "seat", 0, 1);
  }

  /** COINS 99,899, and 100 more an hour; 99 are lent on a, 1 on b. */
  private static Run nearlyFull() {
    Run x = Run.of("thing a 1 1; thing b 1 1; seat s 1 999; heat = 9; rent = lent;").done("lend", 0, 0, 99).done("lend", 0, 1, 1);
    for (int i = 0; i < 20; i++) x.done("hours", 48);
    return x.done("hours", 30);
  }

  private static void callRefused() {
    Run.unchanged(Run::busy, -2, "call", 0, 1);
    Run.unchanged(HoursBoundsTest::evening, -2, "call", 0, 0);
    Run.unchanged(() -> evening().done("move", 0, 7), -2, "call", 0, 0);
    evening().done("move", 0, 8).due(10, "call", 0, 0);
    Run.unchanged(() -> evening().done("hours", 3), -2, "call", 0, 0);
    nearlyFull().due(99899, "seat", 0, 1).due(99, "call", 0, 0).due(99998, "seat", 0, 1).due(1, "call", 0, 1).due(99999, "seat", 0, 1);
    Run.unchanged(() -> nearlyFull().done("hours", 1).due(99999, "seat", 0, 1), -2, "call", 0, 1);
    Run.unchanged(() -> nearlyFull().done("call", 0, 0).done("hours", 1).due(99999, "seat", 0, 1), -2, "call", 0, 1);
    Run.unchanged(() -> nearlyFull().done("call", 0, 1).done("hours", 1).due(99999, "seat", 0, 1), -2, "call", 0, 0);
    Run.bounds(Run::busy, -1, "call", new int[] {0, 0}, 0, 0, 1);
    Run.bounds(Run::busy, -1, "call", new int[] {0, 0}, 1, 0, 1);
    new Run().due(-1, "call", 0, 0);
  }

  private static void moves() {
    Run.busy().due(1, "move", 0, 0).due(0, "seat", 0, 0).due(1, "move", 0, 19).due(19, "seat", 0, 0).due(15, "seat", 1, 0)
        .due(6, "count", 10);
    // what it SEES is by its new X, and its loans and COINS stay
    Run.busy().due(1, "move", 0, 19).due(1, "seat", 0, 2).due(10, "loan", 0, 0, 0).due(96, "seat", 0, 1);
    // two SEATS may be at one X
    Run.busy().due(1, "move", 0, 15).due(0, "move", 0, 15).due(0, "move", 1, 15);
    Run.unchanged(Run::busy, 0, "move", 0, 3);
    Run.unchanged(Run::busy, 0, "move", 1, 15);
    Run.bounds(Run::busy, 0, "move", new int[] {0, 5}, 0, 0, 1);
    Run.bounds(Run::busy, 0, "move", new int[] {0, 5}, 1, 0, 19);
    new Run().due(0, "move", 0, 0).due(0, "move", 0, 1);
  }

  private static void hoursGoBy() {
    Run.unchanged(Run::busy, 11, "hours", 0);
    Run.busy().due(12, "hours", 1).due(5, "count", 10);
    Run.busy().due(59, "hours", 48).due(59, "count", 2).due(5, "count", 10);
    Run.bounds(Run::busy, -1, "hours", new int[] {0}, 0, 0, 48);
    // 48 at once are like 48 of 1
    Run x = Run.of(Run.NOON + "winds 50; grace 9;").done("lend", 0, 0, 10).done("lend", 1, 1, 20).done("hold", 0);
    Run y = Run.of(Run.NOON + "winds 50; grace 9;").done("lend", 0, 0, 10).done("lend", 1, 1, 20).done("hold", 0);
    x.done("hours", 48).done("hold", 1).done("restore", 1);
    for (int i = 0; i < 48; i++) y.done("hours", 1);
    x.like(y.done("hold", 1).done("restore", 1), "behind 48 hours");
    new Run().due(0, "hours", 0).due(-1, "hours", -1).due(-1, "hours", 49).due(0, "count", 2).due(48, "hours", 48).due(96, "hours", 48);
  }

  private static void undoes() {
    Run.busy().done("lend", 1, 0, 5).due(1, "undo").like(Run.busy(), "lend undone");
    Run.busy().done("call", 0, 0).due(1, "undo").like(Run.busy(), "call undone");
    Run.busy().done("move", 1, 7).due(1, "undo").like(Run.busy(), "move undone");
    Run.busy().done("hours", 30).due(1, "undo").like(Run.busy(), "hours undone");
    Run.busy().done("lend", 1, 0, 5).done("hours", 14).done("move", 0, 0).done("lend", 0, 0, 7).done("call", 0, 0).due(4 + 5, "count", 10)
        .due(1, "undo").due(1, "undo").due(1, "undo").due(1, "undo").due(1, "undo").like(Run.busy(), "five undone");
    // none is done: by a new object, by a text, by a slot; and nothing happens
    new Run().due(0, "undo").due(0, "count", 2);
    Run.unchanged(() -> Run.of(Run.NOON), 0, "undo");
    Run.unchanged(() -> Run.busy().done("restore", 1), 0, "undo");
    Run.unchanged(() -> Run.of(Run.NOON).done("move", 0, 5).due(1, "undo"), 0, "undo");
    // what is no such thing is none to be undone
    Run x = Run.of(Run.NOON).done("hours", 0).done("hold", 0).done("tell", 1, 1, 1).done("forget").done("feed", 0, 0, 0, 0, 0)
        .done("back", 20);
    x.due(-1, "hours", 49).due(-1, "lend", 0, 0, 0).due(-2, "lend", 0, 0, 101).due(-2, "call", 0, 0).due(0, "move", 0, 2);
    x.due(0, "count", 10).due(0, "undo");
  }

  private static void thirtyCanBeUndone() {
    for (int done : new int[] {29, 30, 31, 59, 60, 61, 95}) {
      Run x = Run.of("begins 1;");
      for (int i = 0; i < done; i++) x.done("hours", 1);
      int can = Math.min(done, 30);
      x.due(can, "count", 10);
      for (int i = 1; i <= can; i++) x.due(1, "undo").due(1 + done - i, "count", 2).due(can - i, "count", 10);
      x.due(0, "undo").due(1 + done - can, "count", 2);
    }
    // what was undone makes room again
    Run x = new Run();
    for (int i = 0; i < 30; i++) x.done("hours", 1);
    for (int i = 0; i < 10; i++) x.due(1, "undo");
    x.due(20, "count", 10);
    for (int i = 0; i < 15; i++) x.done("hours", 1);
    x.due(35, "count", 2).due(30, "count", 10);
    for (int i = 0; i < 30; i++) x.due(1, "undo");
    x.due(0, "undo").due(5, "count", 2).done("hours", 3).due(1, "count", 10).due(1, "undo").due(5, "count", 2).due(0, "undo");
    // a call that is refused when there are 30 does not drive out the oldest
    Run y = new Run();
    for (int i = 0; i < 30; i++) y.done("hours", 1);
    y.done("hours", 0).due(-1, "hours", 49).due(0, "move", 0, 0);
    for (int i = 0; i < 30; i++) y.due(1, "undo");
    y.due(0, "count", 2).due(0, "undo");
  }
}
