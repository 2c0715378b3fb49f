/** The bounds that part III and promises 15 to 30 name, a test for each sentence: what would be. */
public final class ForesightBoundsTest {
  private static final String SIX_THINGS = "thing a 5 1;thing b 5 2;thing c 5 3;thing d 5 4;thing e 5 5;thing f 5 6;";
  private static final String SIX_SEATS = "seat g 1 60;seat h 1 60;seat i 1 60;seat j 1 60;seat k 1 60;seat l 1 60;";
  /** One THING and one SEAT at the same X; all is SEEN. */
  private static final String PAIR = "thing a 9 4; seat s 9 99; heat = 5;";

  public static void main(String[] args) {
    Run.test("What would be (nothing happens,", ForesightBoundsTest::nothingHappens);
    Run.test("no WINDS but in HOURS).", ForesightBoundsTest::noWinds);
    sights();
    places();
    loans();
    ways();
    Run.end();
  }

  private static void sights() {
    Run.test("SIGHT from an X of a THING n hours from now (0 .. 48): whether, at which X.", ForesightBoundsTest::sightHours);
    Run.test("SIGHT: the X at which it is SEEN; -2: it is not; NONE: no such ones.", ForesightBoundsTest::sightAnswers);
    Run.test("CLASH: pairs of SEATS that lent on unlike THINGS which they SEE at one and the same X now: how many; the first.", ForesightBoundsTest::clashes);
    Run.test("CLASH: what 0 how many, 1 the first pair (10 * the lesser SEAT + the other one, least first; -2: none). NONE for others.",
        ForesightBoundsTest::clashAnswers);
    Run.test("LONG: in how many of the next n hours (1 .. 48) a THING is SEEN from an X;", ForesightBoundsTest::longHours);
    Run.test("LONG; NONE: no such ones.", ForesightBoundsTest::longAnswers);
    Run.test("BEST: the X 0 .. 19 from which it is in most, of alike ones the first.", ForesightBoundsTest::bestX);
    Run.test("BEST: what 0 X, 1 in how many hours; NONE: no such ones.", ForesightBoundsTest::bestAnswers);
    Run.test("DAWNS: behind how many hours (0 .. 48) a THING is SEEN from an X for the first time.", ForesightBoundsTest::dawnsHours);
    Run.test("DAWNS; -2: not; NONE: no such ones.", ForesightBoundsTest::dawnsAnswers);
  }

  private static void places() {
    Run.test("NEAR from an X: of THINGS SEEN from there now the one SEEN nearest to it, of alike ones the first; how far.", ForesightBoundsTest::nearest);
    Run.test("NEAR: what 0 which, 1 how far; -2: nothing is SEEN; NONE: no such ones.", ForesightBoundsTest::nearAnswers);
    Run.test("CROWD at an X': THINGS that some SEAT SEES there now.", ForesightBoundsTest::crowds);
    Run.test("CROWD (bits); NONE: no such X.", ForesightBoundsTest::crowdAnswers);
    Run.test("UMBRELLAS k (1 .. 3): X (each another one) from which, together, most THINGS are SEEN now; of alike ones the first by the least X, "
        + "then the next one; how many.", ForesightBoundsTest::umbrellaPitches);
    Run.test("UMBRELLAS: how many THINGS (i NONE), else the i-th X; NONE: no such ones (i 0 .. k less 1).", ForesightBoundsTest::umbrellaAnswers);
  }

  private static void loans() {
    Run.test("RICH in n HOURS: the SEAT of which BOOK is most, of alike ones the first; how much.", ForesightBoundsTest::richest);
    Run.test("RICH (n 0 .. 48): what 0 which, 1 how much; -2: there are no SEATS; NONE: no such ones.", ForesightBoundsTest::richAnswers);
    Run.test("WORTH of lending n on a THING, by a SEAT, for m hours (1 .. 48):", ForesightBoundsTest::worthHours);
    Run.test("RENT in them, and what is lent then if it is SEEN behind them (as the hour then is), and not GONE, less n (may be below 0).",
        ForesightBoundsTest::worthBehind);
    Run.test("WORTH (n 1 .. 999; its COINS, a loan that it has not looked at); -100000: no such ones.", ForesightBoundsTest::worthAnswers);
    Run.test("BOOK: how much all that a SEAT has lent, and its COINS, are together in n HOURS (0 .. 48), WINDS too.", ForesightBoundsTest::bookHours);
    Run.test("BOOK; NONE: no such ones.", ForesightBoundsTest::bookAnswers);
    Run.test("IN n HOURS (0 .. 48) how much is lent by a SEAT on a THING; -2: nothing; NONE: no such ones.", ForesightBoundsTest::lentInAnswers);
    Run.test("YEAR by s SEEDS (1 .. 20) from the text's SEED on: in how many of them a loan of a SEAT on a THING is not GONE in n HOURS (0 .. 48).",
        ForesightBoundsTest::yearSeeds);
    Run.test("YEAR (there is no loan now: 0); NONE: no such ones.", ForesightBoundsTest::yearAnswers);
  }

  private static void ways() {
    Run.test("HIDDEN: the fewest hours (0 .. 48) in which a party goes from an X to an X, each hour to one next to it, or staying,",
        ForesightBoundsTest::fewestHours);
    Run.test("never where it is SEEN by a SEAT (as a THING of TALL t there; at the start and behind each hour, by the HEAT of the hour that is then).",
        ForesightBoundsTest::neverSeen);
    Run.test("HIDDEN from X to X (t 1 .. 9); -2: not; NONE: no such ones.", ForesightBoundsTest::hiddenAnswers);
    Run.test("COOL: behind how many hours (0 .. 48) nothing is SEEN by any SEAT.", ForesightBoundsTest::coolHours);
    Run.test("COOL (0: now); -2: not.", ForesightBoundsTest::coolAnswers);
    Run.test("HEAT n hours from now (0 .. 48); NONE: no such n.", ForesightBoundsTest::heatAnswers);
  }

  // ---- nothing happens, no WINDS

  private static void nothingHappens() {
    Run.unchanged(Run::busy, 13, "sight", 2, 0, 48);
    Run.unchanged(Run::busy, 0, "clash", 0);
    Run.unchanged(Run::busy, 24, "longFrom", 2, 0, 48);
    Run.unchanged(Run::busy, 8, "best", 0, 48, 0);
    Run.unchanged(Run::busy, 0, "dawns", 15, 0);
    Run.unchanged(Run::busy, 1, "near", 2, 0);
    Run.unchanged(Run::busy, 3, "crowd", 7);
    Run.unchanged(Run::busy, 0, "rich", 48, 0);
    Run.unchanged(Run::busy, 2, "umbrellas", 3, 2);
    Run.unchanged(Run::busy, 10 - 50, "worth", 0, 0, 50, 48);
    Run.unchanged(Run::busy, 102, "book", 0, 48);
    Run.unchanged(Run::busy, -2, "hidden", 0, 19, 1);
    Run.unchanged(Run::busy, -2, "cool");
    Run.unchanged(Run::busy, 12, "heatIn", 48);
    Run.unchanged(Run::busy, -2, "lentIn", 0, 0, 48);
    Run.unchanged(Run::busy, 0, "year", 0, 0, 48, 20);
  }

  private static void noWinds() {
    Run x = Run.of(PAIR + "winds 100; grace 2;").done("lend", 0, 0, 9);
    x.due(9, "sight", 9, 0, 0).due(9, "sight", 9, 0, 1).due(48, "longFrom", 9, 0, 48).due(48, "best", 0, 48, 1).due(0, "dawns", 9, 0);
    x.due(0, "near", 9, 0).due(1, "crowd", 9).due(1, "umbrellas", 1, -1).due(4 * 48, "worth", 0, 0, 9, 48).due(-2, "hidden", 9, 9, 1)
        .due(-2, "cool");
    // also in an hour of which LOT is 0, the least that can be
    int hour = 0;
    while (HoursBoundsTest.lot(0, 4 * hour) != 0) hour++;
    Run least = Run.of(PAIR + "winds 1;");
    for (int left = hour; left > 0; left -= Math.min(left, 48)) least.done("hours", Math.min(left, 48));
    least.due(1, "count", 13).due(4, "worth", 0, 0, 9, 1).due(9, "sight", 9, 0, 0).due(1, "longFrom", 9, 0, 1);
    // in HOURS they count: nothing is got, and it is GONE behind two
    x.due(99, "book", 0, 1).due(90, "book", 0, 2).due(99, "rich", 1, 1).due(90, "rich", 2, 1).due(9, "lentIn", 0, 0, 1)
        .due(-2, "lentIn", 0, 0, 2);
    x.due(20, "year", 0, 0, 1, 20).due(0, "year", 0, 0, 2, 20);
    Run y = Run.of(PAIR + "thing b 9 1; seat u 9 9; winds 100;").done("lend", 0, 0, 9).done("lend", 1, 1, 9).due(1, "clash", 0)
        .due(1, "clash", 1);
    y.due(1, "count", 13);
  }

  // ---- what is SEEN, and when

  private static void sightHours() {
    // SEEN from the third day on
    Run x = Run.of("thing a 9 4; seen = day - 1; moved = hour;").due(-2, "sight", 0, 0, 0).due(-2, "sight", 0, 0, 47)
        .due(9, "sight", 0, 0, 48);
    x.done("hours", 1).due(-2, "sight", 0, 0, 46).due(9, "sight", 0, 0, 47).due(10, "sight", 0, 0, 48);
    x.done("hours", 47).due(9, "sight", 0, 0, 0).due(10, "sight", 0, 0, 1).due(9, "sight", 0, 0, 48).due(9, "sight", 0, 0, 24)
        .due(18, "sight", 0, 0, 23);
    Run y = Run.of(Run.NOON).due(13, "sight", 2, 0, 0).due(13, "sight", 2, 0, 1).due(-2, "sight", 2, 0, 2).due(-2, "sight", 2, 0, 13)
        .due(13, "sight", 2, 0, 14);
    y.due(13, "sight", 2, 0, 48);
  }

  private static void sightAnswers() {
    Run.bounds(Run::busy, -1, "sight", new int[] {2, 0, 0}, 0, 0, 19);
    Run.bounds(Run::busy, -1, "sight", new int[] {2, 0, 0}, 1, 0, 1);
    Run.bounds(Run::busy, -1, "sight", new int[] {2, 0, 0}, 2, 0, 48);
    new Run().due(-1, "sight", 0, 0, 0);
    Run.of("thing a 0 1; thing b 19 1; seen = 1;").due(0, "sight", 19, 0, 0).due(19, "sight", 0, 1, 0).due(0, "sight", 0, 0, 48);
    Run.of("thing a 0 1; thing b 19 1; seen = 0;").due(-2, "sight", 19, 0, 0).due(-2, "sight", 0, 0, 48).due(-1, "sight", 0, 2, 0);
  }

  private static void clashes() {
    Run x = Run.of(SIX_THINGS + SIX_SEATS + "seen = 1;").due(0, "clash", 0).due(-2, "clash", 1);
    // one SEAT's own loans are no pair, nor are loans on one and the same THING
    x.done("lend", 5, 0, 1).done("lend", 5, 1, 1).due(0, "clash", 0).done("call", 5, 1).done("lend", 4, 0, 1).due(0, "clash", 0)
        .due(-2, "clash", 1);
    x.done("lend", 4, 5, 1).due(1, "clash", 0).due(45, "clash", 1).done("lend", 5, 5, 1).due(1, "clash", 0).due(45, "clash", 1);
    x.done("lend", 1, 3, 1).due(3, "clash", 0).due(14, "clash", 1).done("lend", 0, 3, 1).due(5, "clash", 0).due(4, "clash", 1);
    x.done("lend", 2, 2, 1).done("lend", 3, 1, 1).due(14, "clash", 0).due(2, "clash", 1).done("lend", 1, 1, 1).due(15, "clash", 0)
        .due(1, "clash", 1);
    // at one and the same X, and SEEN now: MOVED brings them together; where X is held to 19 they meet, too
    Run z = Run.of("thing a 9 1; thing b 10 2; seat s 1 9; seat u 1 9; seen = if hour < 3 then 1 else 0; moved = if hour < 1 then 0 else 2 - tall;");
    z.done("lend", 0, 0, 1).done("lend", 1, 1, 1).due(0, "clash", 0).done("hours", 1).due(1, "clash", 0).done("hours", 1)
        .due(1, "clash", 0);
    z.done("hours", 1).due(0, "clash", 0).due(-2, "clash", 1);
    Run held = Run.of("thing a 16 1; thing b 18 2; thing c 9 1; seat s 1 9; seat u 1 9; seen = 1; moved = 4;");
    held.done("lend", 0, 0, 1).done("lend", 1, 1, 1).due(1, "clash", 0).done("move", 1, 17).due(1, "clash", 0).done("move", 1, 19)
        .due(0, "clash", 0);
    // one SEAT alone, by the first and by the last of the THINGS; then its neighbour, on the same one
    for (int thing : new int[] {0, 5}) {
      Run one = Run.of(SIX_THINGS + SIX_SEATS + "seen = 1;");
      for (int seat : new int[] {0, 5, 1, 4}) one.done("lend", seat, thing, 1).due(0, "clash", 0).due(-2, "clash", 1);
      one.done("lend", 2, 5 - thing, 1).due(4, "clash", 0).due(2, "clash", 1);
    }
    // what is not lent on does not count
    Run w = Run.of(SIX_THINGS + SIX_SEATS + "seen = 1;").done("lend", 0, 0, 1).due(0, "clash", 0);
    w.done("lend", 1, 1, 1).due(1, "clash", 0).done("call", 0, 0).due(0, "clash", 0).due(-2, "clash", 1);
  }

  private static void clashAnswers() {
    Run.bounds(Run::busy, -1, "clash", new int[] {0}, 0, 0, 1);
    new Run().due(0, "clash", 0).due(-2, "clash", 1).due(-1, "clash", 2).due(-1, "clash", -1);
    Run all = Run.of(SIX_THINGS + SIX_SEATS + "seen = 1;");
    for (int i = 0; i < 6; i++) all.done("lend", i, i, 1);
    all.due(15, "clash", 0).due(1, "clash", 1);
  }

  private static void longHours() {
    // at 10 and 11, from 24 to 35, from 48 to 59: this hour is the first of the next ones
    Run x = Run.of(Run.NOON).due(1, "longFrom", 2, 0, 1).due(2, "longFrom", 2, 0, 2).due(2, "longFrom", 2, 0, 3)
        .due(2, "longFrom", 2, 0, 14);
    x.due(3, "longFrom", 2, 0, 15).due(23, "longFrom", 2, 0, 47).due(24, "longFrom", 2, 0, 48);
    x.done("hours", 2).due(0, "longFrom", 2, 0, 1).due(0, "longFrom", 2, 0, 12).due(1, "longFrom", 2, 0, 13).due(12, "longFrom", 2, 0, 36);
    Run.of("thing a 9 4; seen = 1;").due(48, "longFrom", 0, 0, 48).due(1, "longFrom", 0, 0, 1);
    Run.of("thing a 9 4; seen = 0;").due(0, "longFrom", 0, 0, 48).due(0, "longFrom", 0, 0, 1);
  }

  private static void longAnswers() {
    Run.bounds(Run::busy, -1, "longFrom", new int[] {2, 0, 1}, 0, 0, 19);
    Run.bounds(Run::busy, -1, "longFrom", new int[] {2, 0, 1}, 1, 0, 1);
    Run.bounds(Run::busy, -1, "longFrom", new int[] {2, 0, 1}, 2, 1, 48);
    new Run().due(-1, "longFrom", 0, 0, 1);
  }

  private static void bestX() {
    for (int x = 0; x < 20; x++)
      Run.of("thing a 9 4; seen = 1 - (at - " + x + ") * (at - " + x + ");").due(x, "best", 0, 48, 0).due(48, "best", 0, 48, 1)
          .due(x, "best", 0, 1, 0).due(1, "best", 0, 1, 1);
    // from 20, where nobody is, it would be SEEN
    Run.of("thing a 9 4; seen = at - 19;").due(0, "best", 0, 48, 0).due(0, "best", 0, 48, 1);
    Run.of("thing a 9 4; seen = 1;").due(0, "best", 0, 48, 0).due(48, "best", 0, 48, 1);
    Run.of("thing a 9 4; seen = 0;").due(0, "best", 0, 48, 0).due(0, "best", 0, 48, 1);
    // 5 away it is SEEN from 4 and from 14: the first; and from 14 one hour more: that one
    Run.of("thing a 9 4; seen = 1 - (far - 5) * (far - 5);").due(4, "best", 0, 9, 0).due(9, "best", 0, 9, 1);
    Run.of("thing a 9 4; seen = if hour < 8 then 1 - (far - 5) * (far - 5) else 1 - (at - 14) * (at - 14);").due(4, "best", 0, 8, 0)
        .due(8, "best", 0, 8, 1)
        .due(14, "best", 0, 9, 0).due(9, "best", 0, 9, 1);
  }

  private static void bestAnswers() {
    Run.bounds(Run::busy, -1, "best", new int[] {0, 1, 0}, 0, 0, 1);
    Run.bounds(Run::busy, -1, "best", new int[] {0, 1, 0}, 1, 1, 48);
    Run.bounds(Run::busy, -1, "best", new int[] {0, 1, 0}, 2, 0, 1);
    new Run().due(-1, "best", 0, 1, 0);
    Run.of(Run.NOON).due(8, "best", 0, 3, 0).due(3, "best", 0, 3, 1).due(0, "best", 0, 2, 0).due(2, "best", 0, 2, 1);
  }

  private static void dawnsHours() {
    Run x = Run.of("thing a 9 4; seen = day - 1;").due(48, "dawns", 0, 0).done("hours", 1).due(47, "dawns", 0, 0).done("hours", 46)
        .due(1, "dawns", 0, 0);
    x.done("hours", 1).due(0, "dawns", 0, 0).done("hours", 1).due(0, "dawns", 0, 0);
    // at 72, and at 71 if it begins at 23
    Run y = Run.of("thing a 9 4; seen = day - 2; begins 23;").due(-2, "dawns", 0, 0).done("hours", 1).due(48, "dawns", 0, 0).due(1, "undo")
        .due(-2, "dawns", 0, 0);
    y.due(-2, "sight", 0, 0, 48);
  }

  private static void dawnsAnswers() {
    Run.bounds(Run::busy, -1, "dawns", new int[] {2, 0}, 0, 0, 19);
    Run.bounds(Run::busy, -1, "dawns", new int[] {2, 0}, 1, 0, 1);
    Run.of("thing a 9 4; seen = 0;").due(-2, "dawns", 0, 0).due(-2, "dawns", 19, 0).due(-1, "dawns", 20, 0).due(-1, "dawns", 0, 1);
    new Run().due(-1, "dawns", 0, 0);
  }

  // ---- where it is SEEN

  private static void nearest() {
    // where it is SEEN counts, not where it stands
    Run.of("thing a 9 1; thing b 12 2; seen = 1; moved = 6 - 4 * tall;").due(1, "near", 8, 0).due(2, "near", 8, 1);
    // of alike ones the first, to which side ever
    Run x = Run.of("thing a 12 1; thing b 8 1; thing c 12 1; seen = 1;").due(0, "near", 10, 0).due(2, "near", 10, 1).due(1, "near", 9, 0)
        .due(1, "near", 9, 1);
    x.due(0, "near", 11, 0).due(1, "near", 11, 1).due(0, "near", 12, 0).due(0, "near", 12, 1);
    // as far away as can be
    Run.of("thing a 19 1; seen = 1;").due(0, "near", 0, 0).due(19, "near", 0, 1).due(0, "near", 19, 1);
    Run.of("thing a 0 1; seen = 1;").due(0, "near", 19, 0).due(19, "near", 19, 1);
    // the nearest may not be SEEN
    Run.of("thing a 9 1; thing b 12 2; seen = tall - 1;").due(1, "near", 9, 0).due(3, "near", 9, 1);
  }

  private static void nearAnswers() {
    Run.bounds(Run::busy, -1, "near", new int[] {2, 0}, 0, 0, 19);
    Run.bounds(Run::busy, -1, "near", new int[] {2, 0}, 1, 0, 1);
    Run.of("thing a 9 1; seen = 0;").due(-2, "near", 9, 0).due(-2, "near", 9, 1).due(-1, "near", -1, 0).due(-1, "near", 20, 1);
    new Run().due(-2, "near", 0, 0).due(-2, "near", 19, 1).due(-1, "near", 20, 0);
  }

  private static void crowds() {
    Run x = Run.of(SIX_THINGS + SIX_SEATS + "seen = 1;");
    for (int at = 0; at < 20; at++) x.due(at == 5 ? 63 : 0, "crowd", at);
    // where X is held to the flat's ends
    Run y = Run.of("thing a 17 1; thing b 18 1; thing c 1 1; seat s 9 1; seen = 1; moved = 2;").due(3, "crowd", 19).due(0, "crowd", 18)
        .due(4, "crowd", 0).due(0, "crowd", 1);
    // a THING can be SEEN at two X by two SEATS
    Run.of("thing a 9 1; seat s 1 1; seat u 15 1; seen = 1; moved = 2;").due(1, "crowd", 11).due(1, "crowd", 7).due(0, "crowd", 9);
    Run.of("thing a 9 1; seat s 1 1; seen = 0;").due(0, "crowd", 9);
    Run.of("thing a 9 1; seen = 1;").due(0, "crowd", 9);
    y.due(0, "crowd", 9);
  }

  private static void crowdAnswers() {
    Run.bounds(Run::busy, -1, "crowd", new int[] {7}, 0, 0, 19);
    new Run().due(0, "crowd", 0).due(0, "crowd", 19).due(-1, "crowd", 20).due(-1, "crowd", -1);
  }

  private static void pitched(Run x, int most, int... pitch) {
    x.due(most, "umbrellas", pitch.length, -1);
    for (int i = 0; i < pitch.length; i++) x.due(pitch[i], "umbrellas", pitch.length, i);
  }

  private static void umbrellaPitches() {
    Run none = Run.of("thing a 9 1; seen = 0;");
    pitched(none, 0, 0);
    pitched(none, 0, 0, 1);
    pitched(none, 0, 0, 1, 2);
    Run everywhere = Run.of(SIX_THINGS + "seen = 1;");
    pitched(everywhere, 6, 0);
    pitched(everywhere, 6, 0, 1, 2);
    // each only from its own X
    Run own = Run.of("thing a 0 1; thing b 17 1; thing c 18 1; thing d 19 1; seen = 1 - far;");
    pitched(own, 1, 0);
    pitched(own, 2, 0, 17);
    pitched(own, 3, 0, 17, 18);
    Run last = Run.of("thing b 17 1; thing c 18 1; thing d 19 1; seen = 1 - far;");
    pitched(last, 1, 17);
    pitched(last, 2, 17, 18);
    pitched(last, 3, 17, 18, 19);
    // what is not needed is pitched first
    Run end = Run.of("thing a 19 1; seen = 1 - far;");
    pitched(end, 1, 19);
    pitched(end, 1, 0, 19);
    pitched(end, 1, 0, 1, 19);
    // the one X from which most is SEEN is not one of the best two
    Run x = Run.of("thing a 2 1; thing b 6 1; thing c 8 1; thing d 11 1; thing e 13 1; thing f 17 1; seen = if at < 1 then (across - 5) * (15 - across) "
        + "else if at < 2 then 10 - across else if at < 3 then across - 9 else 0;");
    pitched(x, 4, 0);
    pitched(x, 6, 1, 2);
    pitched(x, 6, 0, 1, 2);
  }

  private static void umbrellaAnswers() {
    Run.bounds(Run::busy, -1, "umbrellas", new int[] {1, -1}, 0, 1, 3);
    for (int k = 1; k <= 3; k++) Run.bounds(Run::busy, -1, "umbrellas", new int[] {k, 0}, 1, -1, k - 1);
    Run.bounds(Run::busy, -1, "umbrellas", new int[] {3, 2}, 0, 3, 3);
    pitched(new Run(), 0, 0, 1, 2);
    new Run().due(-1, "umbrellas", 0, 0).due(-1, "umbrellas", 4, 3).due(-1, "umbrellas", 0, -1).due(-1, "umbrellas", 4, -1);
  }

  // ---- loans

  private static void richest() {
    // 10 and 9, with 1 of RENT an hour: alike behind one hour
    Run x = Run.of("thing a 9 1; seat s 9 10; seat u 9 9; seen = 1;").done("lend", 1, 0, 9);
    x.due(0, "rich", 0, 0).due(10, "rich", 0, 1).due(0, "rich", 1, 0).due(10, "rich", 1, 1).due(1, "rich", 2, 0).due(11, "rich", 2, 1);
    x.due(1, "rich", 48, 0).due(9 + 48, "rich", 48, 1);
    Run.of(SIX_SEATS).due(0, "rich", 0, 0).due(60, "rich", 48, 1);
    Run.of(SIX_SEATS.replace("seat l 1 60", "seat l 1 61")).due(5, "rich", 0, 0).due(61, "rich", 48, 1);
    Run.of("seat a 1 0;").due(0, "rich", 0, 0).due(0, "rich", 0, 1);
  }

  private static void richAnswers() {
    Run.bounds(Run::busy, -1, "rich", new int[] {0, 0}, 0, 0, 48);
    Run.bounds(Run::busy, -1, "rich", new int[] {0, 0}, 1, 0, 1);
    new Run().due(-2, "rich", 0, 0).due(-2, "rich", 48, 1);
    Run.of("thing a 1 1;").due(-2, "rich", 1, 0).due(-2, "rich", 1, 1);
  }

  private static void worthHours() {
    // unseen till the third day
    Run late = Run.of("thing a 9 4; seat s 9 1; seen = day - 1; grace 99; interest = 99;");
    late.due(-999, "worth", 0, 0, 999, 47).due(99999 - 999, "worth", 0, 0, 999, 48).due(-1, "worth", 0, 0, 1, 47)
        .due(0, "worth", 0, 0, 1, 48);
    Run most = Run.of("thing a 9 4; seat s 9 1; seen = 1; rent = 99;");
    most.due(99, "worth", 0, 0, 1, 1).due(99, "worth", 0, 0, 999, 1).due(48 * 99, "worth", 0, 0, 999, 48);
  }

  private static void worthBehind() {
    // SEEN at 0, not at 1 and 2, and from 3 on
    String gap = "thing a 9 4; seat s 9 1; seen = if hour < 1 then 1 else if hour < 3 then 0 else 1; interest = 10; rent = 7;";
    Run back = Run.of(gap + "grace 3;");
    back.due(7 - 100, "worth", 0, 0, 100, 1).due(7 - 100, "worth", 0, 0, 100, 2).due(7 + 121 - 100, "worth", 0, 0, 100, 3)
        .due(14 + 121 - 100, "worth", 0, 0, 100, 4);
    Run gone = Run.of(gap + "grace 2;");
    gone.due(7 - 100, "worth", 0, 0, 100, 2).due(7 - 100, "worth", 0, 0, 100, 3).due(7 - 100, "worth", 0, 0, 100, 4)
        .due(7 - 100, "worth", 0, 0, 100, 21);
    // by the hour behind them: SEEN in HOUR 0, not at 1
    Run.of("thing a 9 4; seat s 9 1; seen = 1 - hour;").due(4 - 9, "worth", 0, 0, 9, 1);
    Run.of("thing a 9 4; seat s 9 1; seen = hour; begins 0;").due(0, "worth", 0, 0, 9, 1).due(4, "worth", 0, 0, 9, 2);
    // as little as can be
    Run.of("thing a 9 4; seat s 9 1; seen = 0;").due(-999, "worth", 0, 0, 999, 48).due(-1, "worth", 0, 0, 1, 1);
  }

  private static void worthAnswers() {
    Run.bounds(Run::busy, -100000, "worth", new int[] {0, 0, 5, 5}, 0, 0, 1);
    Run.bounds(Run::busy, -100000, "worth", new int[] {0, 0, 5, 5}, 1, 0, 1);
    Run.bounds(Run::busy, -100000, "worth", new int[] {0, 0, 5, 5}, 2, 1, 999);
    Run.bounds(Run::busy, -100000, "worth", new int[] {0, 0, 5, 5}, 3, 1, 48);
    new Run().due(-100000, "worth", 0, 0, 1, 1);
    // COINS: none, and as many as can be, which RENT does not look at either
    Run.of("thing a 9 4; seat s 9 0; heat = 5;").due(4, "worth", 0, 0, 999, 1);
    Run full = Run.of("thing a 1 1; thing b 1 1; seat s 1 999; heat = 9; rent = lent;").done("lend", 0, 0, 99).done("lend", 0, 1, 1);
    for (int i = 0; i < 21; i++) full.done("hours", 48);
    full.due(99999, "seat", 0, 1).due(990, "worth", 0, 0, 99, 10).due(10, "worth", 0, 1, 1, 10).due(99 * 48, "worth", 0, 0, 999, 48);
    // a loan that it has: neither what is lent, nor how long it is unseen, nor the others' RENT
    Run x = Run.of("thing a 9 4; thing b 9 4; seat s 9 99; heat = 5; winds 100; grace 3;").done("lend", 0, 0, 9).done("lend", 0, 1, 9)
        .done("hours", 2);
    x.due(2, "loan", 0, 0, 1).due(4, "worth", 0, 0, 50, 1).due(12, "worth", 0, 0, 50, 3);
  }

  private static void bookHours() {
    Run x = Run.busy().due(106, "book", 0, 0).due(53, "book", 1, 0).due(112, "book", 0, 1).due(102 + 12, "book", 0, 3)
        .due(102, "book", 0, 4).due(102, "book", 0, 48);
    x.done("hours", 48).due(102, "book", 0, 0);
    Run y = Run.of(PAIR + "winds 100; grace 99; interest = 10;").done("lend", 0, 0, 10).due(99, "book", 0, 0).due(100, "book", 0, 1);
    int lent = 10;
    for (int i = 0; i < 48; i++) lent += lent / 10;
    y.due(89 + lent, "book", 0, 48).due(lent, "lentIn", 0, 0, 48);
  }

  private static void bookAnswers() {
    Run.bounds(Run::busy, -1, "book", new int[] {0, 0}, 0, 0, 1);
    Run.bounds(Run::busy, -1, "book", new int[] {0, 0}, 1, 0, 48);
    new Run().due(-1, "book", 0, 0);
    Run.of("seat s 1 0; seat u 1 999;").due(0, "book", 0, 48).due(999, "book", 1, 48).due(-1, "book", 2, 0);
  }

  private static void lentInAnswers() {
    Run.bounds(Run::busy, -1, "lentIn", new int[] {0, 0, 0}, 0, 0, 1);
    Run.bounds(Run::busy, -1, "lentIn", new int[] {0, 0, 0}, 1, 0, 1);
    Run.bounds(Run::busy, -1, "lentIn", new int[] {0, 0, 0}, 2, 0, 48);
    Run.busy().due(10, "lentIn", 0, 0, 0).due(10, "lentIn", 0, 0, 1).due(11, "lentIn", 0, 0, 2).due(12, "lentIn", 0, 0, 3)
        .due(-2, "lentIn", 0, 0, 4)
        .due(-2, "lentIn", 0, 0, 48).due(-2, "lentIn", 0, 1, 0).due(-2, "lentIn", 0, 1, 48).due(24, "lentIn", 1, 1, 3);
    new Run().due(-1, "lentIn", 0, 0, 0);
  }

  /** In how many of the SEEDS there are never so many WINDS on end in n hours: then a loan is not GONE. */
  private static int kept(int seed, int seeds, int winds, int grace, int n) {
    int kept = 0;
    for (int i = 0; i < seeds; i++) {
      int unseen = 0, most = 0;
      for (int hour = 0; hour < n; hour++) {
        unseen = HoursBoundsTest.lot(seed + i, 4 * hour) < winds ? unseen + 1 : 0;
        most = Math.max(most, unseen);
      }
      kept += most < grace ? 1 : 0;
    }
    return kept;
  }

  private static void yearSeeds() {
    // beyond 9999 the SEEDS go on with 10000
    for (int seed : new int[] {0, 5, 9980, 9990, 9999}) {
      Run x = Run.of(PAIR + "winds 30; grace 2; seed " + seed + ";").done("lend", 0, 0, 9);
      for (int seeds : new int[] {1, 2, 19, 20})
        for (int n : new int[] {0, 1, 2, 3, 6, 20, 47, 48}) x.due(kept(seed, seeds, 30, 2, n), "year", 0, 0, n, seeds);
    }
    Run still = Run.of(PAIR + "grace 1;").done("lend", 0, 0, 9).due(20, "year", 0, 0, 48, 20).due(1, "year", 0, 0, 48, 1);
    still.done("move", 0, 0).due(20, "year", 0, 0, 0, 20).due(0, "year", 0, 0, 1, 20);
    Run.of(PAIR + "winds 100; grace 2;").done("lend", 0, 0, 1).due(20, "year", 0, 0, 1, 20).due(0, "year", 0, 0, 2, 20);
    // for how many hours it is unseen now counts
    Run x = Run.of(PAIR + "winds 100; grace 3;").done("lend", 0, 0, 9).done("hours", 2).due(20, "year", 0, 0, 0, 20)
        .due(0, "year", 0, 0, 1, 20);
    x.due(1, "undo").due(20, "year", 0, 0, 2, 20).due(0, "year", 0, 0, 3, 20);
  }

  private static void yearAnswers() {
    Run.bounds(Run::busy, -1, "year", new int[] {0, 0, 5, 5}, 0, 0, 1);
    Run.bounds(Run::busy, -1, "year", new int[] {0, 0, 5, 5}, 1, 0, 1);
    Run.bounds(Run::busy, -1, "year", new int[] {0, 0, 5, 5}, 2, 0, 48);
    Run.bounds(Run::busy, -1, "year", new int[] {0, 0, 5, 5}, 3, 1, 20);
    Run.busy().due(0, "year", 0, 1, 0, 20).due(0, "year", 0, 1, 48, 1).due(20, "year", 0, 0, 0, 20).due(5, "year", 0, 0, 3, 5)
        .due(0, "year", 0, 0, 4, 5);
    new Run().due(-1, "year", 0, 0, 0, 1);
  }

  // ---- ways, and how warm it is

  private static void fewestHours() {
    for (int to = 0; to < 20; to++) new Run().due(to, "hidden", 0, to, 1).due(19 - to, "hidden", 19, to, 9)
        .due(Math.abs(9 - to), "hidden", 9, to, 5);
    // X 4 and more is SEEN till 48 hours are gone: one hour's way is waited for, a second one is too much
    Run x = Run.of("seat s 0 1; seen = if day < 2 then across - 3 else 0;").due(48, "hidden", 3, 4, 1).due(48, "hidden", 0, 4, 1)
        .due(-2, "hidden", 3, 5, 1);
    x.done("hours", 1).due(47, "hidden", 3, 4, 1).due(48, "hidden", 3, 5, 1).due(-2, "hidden", 3, 6, 1).done("hours", 47)
        .due(1, "hidden", 3, 4, 1);
    x.due(16, "hidden", 3, 19, 1);
    // a wall that is always SEEN, which there is no way around
    Run wall = Run.of("seat s 0 1; seen = 1 - (across - 9) * (across - 9);").due(8, "hidden", 0, 8, 1).due(-2, "hidden", 0, 10, 1)
        .due(-2, "hidden", 10, 8, 1);
    wall.due(9, "hidden", 10, 19, 1).due(-2, "hidden", 19, 0, 1).due(-2, "hidden", 8, 9, 1);
    // an hour in which all is SEEN: at the flat's ends there is nowhere else to go either
    Run all = Run.of("seat s 9 1; seen = if hour < 1 then 0 else 2 - hour;").due(0, "hidden", 19, 19, 1).due(-2, "hidden", 19, 18, 1)
        .due(-2, "hidden", 18, 19, 1);
    all.due(0, "hidden", 0, 0, 1).due(-2, "hidden", 0, 1, 1).due(-2, "hidden", 1, 0, 1).done("hours", 2).due(1, "hidden", 19, 18, 1)
        .due(19, "hidden", 0, 19, 1);
  }

  private static void neverSeen() {
    // at the start, also where there is no way to go; behind the last hour
    Run day = Run.of("seat s 9 1; heat = if hour < 2 then 0 else 3;").due(0, "hidden", 9, 9, 1).due(1, "hidden", 9, 10, 1)
        .due(-2, "hidden", 9, 11, 1);
    day.due(1, "hidden", 8, 9, 1).due(-2, "hidden", 7, 9, 1).due(2, "hidden", 10, 12, 1).due(-2, "hidden", 9, 12, 1);
    day.done("hours", 1).due(0, "hidden", 9, 9, 1).due(-2, "hidden", 9, 10, 1).due(1, "hidden", 11, 12, 1).due(-2, "hidden", 10, 12, 1);
    day.done("hours", 1).due(-2, "hidden", 9, 9, 1).due(-2, "hidden", 11, 11, 1).due(-2, "hidden", 11, 12, 1).due(0, "hidden", 12, 12, 1);
    day.due(22, "hidden", 12, 11, 1).due(23, "hidden", 12, 10, 1).due(-2, "hidden", 12, 9, 1);
    for (int x = 0; x < 20; x++) {
      Run one = Run.of("seat s 9 1; seen = 1 - (across - " + x + ") * (across - " + x + ");").due(-2, "hidden", x, x, 1);
      if (x > 0) one.due(0, "hidden", x - 1, x - 1, 1).due(-2, "hidden", x - 1, x, 1);
      if (x < 19) one.due(0, "hidden", x + 1, x + 1, 1).due(-2, "hidden", x + 1, x, 1);
    }
    // by its TALL, and by any of the SEATS
    Run tall = Run.of("seat s 9 1; seat u 0 1; seen = if at < 1 then 0 else tall - 4;").due(19, "hidden", 0, 19, 4)
        .due(-2, "hidden", 0, 19, 5);
    tall.done("move", 0, 0).due(19, "hidden", 0, 19, 5).due(19, "hidden", 0, 19, 9).done("move", 1, 1).due(-2, "hidden", 0, 19, 5)
        .due(19, "hidden", 0, 19, 4);
    // the THINGS that stand there are nothing to it
    Run.of("thing a 5 9; seat s 9 1; seen = tall - 4;").due(19, "hidden", 0, 19, 4);
    // far, across, side and at are of where it is
    Run.of("seat s 9 1; seen = side;").due(9, "hidden", 0, 9, 1).due(-2, "hidden", 9, 10, 1).due(-2, "hidden", 10, 10, 1);
  }

  private static void hiddenAnswers() {
    Run.bounds(Run::busy, -1, "hidden", new int[] {0, 0, 1}, 0, 0, 19);
    Run.bounds(Run::busy, -1, "hidden", new int[] {0, 0, 1}, 1, 0, 19);
    Run.bounds(Run::busy, -1, "hidden", new int[] {0, 0, 1}, 2, 1, 9);
    new Run().due(0, "hidden", 0, 0, 1).due(0, "hidden", 19, 19, 9).due(-1, "hidden", 20, 0, 1).due(-1, "hidden", 0, 0, 10);
  }

  private static void coolHours() {
    Run x = Run.of(PAIR + "seen = 2 - day;").due(48, "cool").done("hours", 1).due(47, "cool").done("hours", 46).due(1, "cool")
        .done("hours", 1).due(0, "cool");
    x.done("hours", 1).due(0, "cool");
    Run.of(PAIR + "seen = 3 - day; begins 23;").due(-2, "cool").done("hours", 1).due(48, "cool").due(1, "undo").due(-2, "cool");
    // by any SEAT, of any THING
    Run y = Run.of("thing a 0 1; thing b 19 1; seat s 9 1; seat u 10 1; heat = if hour < 5 then 12 else if hour < 7 then 10 else 9;")
        .due(7, "cool");
    y.done("move", 0, 10).due(7, "cool").done("move", 0, 9).done("move", 1, 9).due(7, "cool").done("hours", 6).due(1, "cool");
  }

  private static void coolAnswers() {
    new Run().due(0, "cool");
    Run.of("thing a 9 4; seen = 1;").due(0, "cool");
    Run.of("seat s 9 4; seen = 1;").due(0, "cool");
    Run.of(PAIR + "seen = 0;").due(0, "cool");
    Run.of(PAIR + "seen = 1;").due(-2, "cool");
  }

  private static void heatAnswers() {
    Run x = Run.of("heat = hour + day * 30; begins 23;").due(23, "heatIn", 0).due(30, "heatIn", 1).due(53, "heatIn", 24)
        .due(60, "heatIn", 25).due(82, "heatIn", 47);
    x.due(83, "heatIn", 48).done("hours", 48).due(83, "heatIn", 0).due(90, "heatIn", 1).due(99, "heatIn", 48);
    Run.bounds(Run::busy, -1, "heatIn", new int[] {0}, 0, 0, 48);
  }
}
