/** The bounds that part IV and promises 31 to 38 name, a test for each sentence: what is TOLD, what is held, what is counted. */
public final class ToldBoundsTest {
  /** All is SEEN, at its X: a sight tells the X, and nothing of the TALL. */
  private static final String CLEAR = "seen = 1;";

  public static void main(String[] args) {
    told();
    slots();
    counts();
    Run.end();
  }

  private static void told() {
    Run.test("TOLD: that from an X something was SEEN at an X', or nothing was (X' NONE), n hours from now (0 .. 24);", ToldBoundsTest::toldHours);
    Run.test("20 at most,", ToldBoundsTest::twentyAtMost);
    Run.test("numbered from 0 on;", ToldBoundsTest::numbered);
    Run.test("KNOWN by k: the first k.", ToldBoundsTest::theFirstOnes);
    Run.test("It is TOLD (X' NONE: nothing SEEN): its number; NONE, and nothing happens: 20 are there, no such ones.", ToldBoundsTest::tellAnswers);
    Run.test("All that was TOLD is forgotten: how many there were.", ToldBoundsTest::forgets);
    Run.test("STANDS: X and TALL (20 by 9) of a THING unknown, so that all that is KNOWN is so: how many;", ToldBoundsTest::twentyByNine);
    Run.test("STANDS, as KNOWN by k; NONE: no such k.", ToldBoundsTest::standsAnswers);
    Run.test("SURE: its X, its TALL.", ToldBoundsTest::everyXAndTall);
    Run.test("SURE, as KNOWN by k: what 0 its X, 1 its TALL; -2: this or that, none; NONE: no such ones.", ToldBoundsTest::sureAnswers);
    Run.test("LOOK n hours from now: the X from which, once it is told where it is SEEN, fewest are left, at worst; of alike ones the first.",
        ToldBoundsTest::fewestAtWorst);
    Run.test("LOOK, as KNOWN by k; -2: none is left; NONE: no such ones.", ToldBoundsTest::lookAnswers);
  }

  private static void slots() {
    Run.test("All that goes on (not what is TOLD, nor the tape) is held in a SLOT (0 .. 2): true; false: no such one.", ToldBoundsTest::holds);
    Run.test("It goes on from what a SLOT holds (that stays there; nothing can be undone then): true;", ToldBoundsTest::restores);
    Run.test("false, and nothing happens: no such one, nothing is held.", ToldBoundsTest::restoreRefused);
  }

  private static void counts() {
    Run.test("16 THINGS that some SEAT SEES now (bits, no WIND looked at). NONE for others.", ToldBoundsTest::countBounds);
    Run.test("0 THINGS, 1 SEATS, 2 the hour, counted on, 3 the hour of the day, 4 the day, 5 loans, 6 what is lent, all together, 7 COINS of all, "
        + "8 loans GONE so far,", ToldBoundsTest::countsOfLoans);
    Run.test("9 bytes on the tape, 10 things that can be undone, 11 TOLD ones, 12 SLOTS that hold something,", ToldBoundsTest::countsOfWhatIsKept);
    Run.test("13: 1 a WIND in this hour, else 0,", ToldBoundsTest::countOfWinds);
  }

  // ---- what is TOLD

  private static void toldHours() {
    // SEEN on the first day only: nothing SEEN is so for none of the first day, and for all of the second one
    Run x = Run.of("seen = 1 - day;");
    x.due(0, "tell", 0, -1, 24).due(180, "stands", 1).due(1, "forget").due(0, "tell", 0, -1, 23).due(0, "stands", 1).due(1, "forget");
    x.due(0, "tell", 0, 5, 0).due(9, "stands", 1).due(1, "forget").due(0, "tell", 0, 5, 23).due(9, "stands", 1).due(1, "forget");
    x.due(0, "tell", 0, 5, 24).due(0, "stands", 1).due(1, "forget").done("hours", 23).due(0, "tell", 0, 5, 0).due(9, "stands", 1)
        .due(1, "tell", 0, -1, 1);
    x.due(9, "stands", 2);
    // from the first X and from the last, at the first X' and at the last
    Run y = Run.of("seen = 10 - far;").due(0, "tell", 0, 0, 0).due(9, "stands", 1).due(1, "tell", 19, -1, 0).due(9, "stands", 2)
        .due(2, "forget");
    y.due(0, "tell", 19, 19, 0).due(9, "stands", 1).due(1, "tell", 0, -1, 0).due(9, "stands", 2).due(2, "tell", 9, 19, 0)
        .due(0, "stands", 3).due(3, "forget");
    y.due(0, "tell", 0, -1, 0).due(90, "stands", 1).due(1, "tell", 19, -1, 0).due(0, "stands", 2);
  }

  private static void twentyAtMost() {
    Run x = Run.of(CLEAR);
    for (int i = 0; i < 20; i++) x.due(i, "tell", 0, 7, 0).due(i + 1, "count", 11);
    x.due(-1, "tell", 0, 7, 0).due(20, "count", 11).due(9, "stands", 20).due(-1, "stands", 21).due(20, "forget").due(0, "tell", 0, 7, 0);
    // the 20th counts, and what is refused does not
    Run y = Run.of(CLEAR);
    for (int i = 0; i < 19; i++) y.due(i, "tell", 0, 7, 0);
    y.due(19, "tell", 0, 8, 0).due(-1, "tell", 0, 8, 0).due(9, "stands", 19).due(0, "stands", 20);
  }

  private static void numbered() {
    Run x = Run.of(CLEAR).due(0, "tell", 0, 7, 0).due(1, "tell", 0, 7, 0).due(-1, "tell", 20, 7, 0).due(2, "tell", 0, 7, 0)
        .due(3, "forget");
    x.due(0, "tell", 0, 7, 0).due(1, "tell", 0, 7, 0).read(CLEAR).due(0, "count", 11).due(0, "tell", 0, 7, 0);
  }

  private static void theFirstOnes() {
    // from X to X one less of them is left: SEEN or not from 0, from 1 ..
    Run x = Run.of("seen = if across < at + 1 then 1 - far else 0;");
    for (int i = 0; i < 20; i++) x.due(i, "tell", i, -1, 0);
    for (int k = 0; k <= 20; k++) x.due(180 - 9 * k, "stands", k);
    x.due(-1, "stands", 21).due(-2, "sure", 20, 0).due(-2, "sure", 18, 0).due(19, "sure", 19, 0).due(-2, "look", 20, 0)
        .due(0, "look", 19, 0);
    x.due(18, "look", 18, 0);
  }

  private static void tellAnswers() {
    Run.bounds(Run::busy, -1, "tell", new int[] {0, 0, 0}, 0, 0, 19);
    Run.bounds(Run::busy, -1, "tell", new int[] {0, 0, 0}, 1, -1, 19);
    Run.bounds(Run::busy, -1, "tell", new int[] {0, 0, 0}, 2, 0, 24);
    Run.unchanged(ToldBoundsTest::twentyTold, -1, "tell", 0, 0, 0);
    Run.unchanged(ToldBoundsTest::twentyTold, -1, "tell", 0, -1, 24);
    new Run().due(0, "tell", 19, -1, 24).due(1, "count", 11).due(0, "count", 10).due(0, "undo");
  }

  private static Run twentyTold() {
    Run x = Run.of(CLEAR + "thing a 1 1; seat s 1 9;");
    for (int i = 0; i < 20; i++) x.done("tell", i, 7, i);
    return x;
  }

  private static void forgets() {
    new Run().due(0, "forget").due(0, "forget");
    twentyTold().due(20, "forget").due(0, "count", 11).due(0, "forget").due(180, "stands", 0).due(-1, "stands", 1);
    Run x = Run.busy().due(2, "forget").due(0, "count", 11);
    // nothing else goes, and it is no thing that can be undone
    x.due(4, "count", 10).due(20, "count", 9).due(1, "count", 12).due(2, "count", 5).due(1, "undo").due(0, "count", 11);
  }

  private static void twentyByNine() {
    new Run().due(180, "stands", 0);
    // by its X alone, by its TALL alone, by both, by none
    Run.of(CLEAR).done("tell", 0, 0, 0).due(9, "stands", 1).done("forget").done("tell", 0, 19, 0).due(9, "stands", 1).done("tell", 0, 18, 0)
        .due(0, "stands", 2);
    for (int tall = 1; tall <= 9; tall++) {
      Run x = Run.of("seen = if tall < " + tall + " then 0 else " + (tall + 1) + " - tall;").done("tell", 0, -1, 0).due(160, "stands", 1);
      x.done("forget").done("tell", 0, 4, 0).due(1, "stands", 1).due(4, "sure", 1, 0).due(tall, "sure", 1, 1);
    }
    // the THINGS that really stand there do not matter, nor do SEATS and WINDS
    Run.of("thing a 3 4; seat s 5 6; winds 100;" + CLEAR).due(180, "stands", 0).done("tell", 0, 7, 0).due(9, "stands", 1);
    // where X is held to the flat's ends more are left: 10 to 19 are SEEN at 19 from 0
    Run.of(CLEAR + "moved = 9;").done("tell", 0, 19, 0).due(90, "stands", 1).done("forget").done("tell", 0, 18, 0).due(9, "stands", 1)
        .done("forget").done("tell", 0, 8, 0).due(0, "stands", 1).done("forget").done("tell", 0, 9, 0).due(9, "stands", 1);
  }

  private static void standsAnswers() {
    Run.bounds(Run::busy, -1, "stands", new int[] {0}, 0, 0, 2);
    new Run().due(-1, "stands", 1).due(-1, "stands", -1).due(180, "stands", 0);
    twentyTold().due(9, "stands", 20).due(-1, "stands", 21);
  }

  private static void everyXAndTall() {
    // at 0 it is SEEN whatever its TALL is, later on if it is taller than the hour is
    for (int x = 0; x < 20; x++) {
      Run run = Run.of("seen = if hour < 1 then 1 else tall - hour;").done("tell", 0, x, 0).due(x, "sure", 1, 0).due(-2, "sure", 1, 1);
      // not SEEN at 8: not taller than 8; SEEN at 7: taller than 7
      run.done("tell", 0, -1, 8).done("tell", 0, x, 7).due(x, "sure", 3, 0).due(8, "sure", 3, 1).due(1, "stands", 3);
      run.done("forget").done("tell", 0, x, 8).due(x, "sure", 1, 0).due(9, "sure", 1, 1);
      run.done("forget").done("tell", 0, -1, 1).due(-2, "sure", 1, 0).due(1, "sure", 1, 1).due(20, "stands", 1).done("tell", 0, x, 0)
          .due(1, "sure", 2, 1);
    }
  }

  private static void sureAnswers() {
    Run.bounds(Run::busy, -1, "sure", new int[] {0, 0}, 0, 0, 2);
    Run.bounds(Run::busy, -1, "sure", new int[] {0, 0}, 1, 0, 1);
    // this or that, and none
    Run x = Run.of(CLEAR).due(-2, "sure", 0, 0).due(-2, "sure", 0, 1).done("tell", 0, 7, 0).due(7, "sure", 1, 0).due(-2, "sure", 1, 1);
    x.done("tell", 0, 8, 0).due(-2, "sure", 2, 0).due(-2, "sure", 2, 1).due(-1, "sure", 3, 0);
    // two are left: of one X, or of one TALL
    Run.of("seen = tall - 7;").done("tell", 0, 7, 0).due(2, "stands", 1).due(7, "sure", 1, 0).due(-2, "sure", 1, 1);
    Run.of("seen = tall - 8; moved = if across < 18 then 0 else 9;").done("tell", 0, 19, 0).due(2, "stands", 1).due(-2, "sure", 1, 0)
        .due(9, "sure", 1, 1);
  }

  private static void fewestAtWorst() {
    // from all X alike: the first
    new Run().due(0, "look", 0, 0);
    Run.of(CLEAR).due(0, "look", 0, 0);
    Run.of("seen = 0;").due(0, "look", 0, 24);
    // from one X alone something is SEEN
    for (int x = 0; x < 20; x++) Run.of("seen = 1 - (at - " + x + ") * (at - " + x + ");").due(x, "look", 0, 0).due(x, "look", 0, 24);
    // from 20, where nobody looks from, it would be told apart
    Run.of("seen = at - 19;").due(0, "look", 0, 0);
    // one of all is told apart, and only from 4
    Run.of("seen = if at < 4 then 0 else if 4 < at then 0 else if across < 19 then 0 else tall - 8;").due(4, "look", 0, 0);
    // two are left, the first ones or the last ones of all: only from 3 they are told apart
    Run first = Run.of("seen = if at < 1 then 3 - tall else if at < 3 then 0 else if at < 4 then tall - 1 else 0;");
    first.done("tell", 0, 0, 0).due(2, "stands", 1).due(3, "look", 1, 0);
    Run last = Run.of("seen = if at < 1 then tall - 7 else if at < 3 then 0 else if at < 4 then tall - 8 else 0;");
    last.done("tell", 0, 19, 0).due(2, "stands", 1).due(3, "look", 1, 0);
    // nine are left: from 3 they come apart into 6, 1, 1, 1, from 5 into 4 and 5, which is fewer at worst
    Run worst = Run.of(CLEAR + "moved = if at < 3 then 0 else if at < 4 then tall / 7 * (tall - 6) else if at < 5 then 0 "
        + "else if at < 6 then tall / 5 else 0;");
    worst.done("tell", 0, 9, 0).due(9, "stands", 1).due(5, "look", 1, 0);
    // those that are not SEEN are told from the others, too: from 7 into 4 and 5
    Run unseen = Run.of("seen = if at < 7 then 1 else if at < 8 then tall - 4 else 1;").done("tell", 0, 9, 0).due(7, "look", 1, 0);
    unseen.done("tell", 7, -1, 0).due(4, "stands", 2).due(0, "look", 2, 0);
    // from 0 it is SEEN at 0 .. 19, from 2 on X is held to 19 for more and more of them
    Run.of(CLEAR + "moved = at;").due(0, "look", 0, 0);
    Run.of(CLEAR + "moved = 9 - at;").due(9, "look", 0, 0);
    // by the hour: on the second day only, and from 6 alone
    Run hour = Run.of("seen = if day < 1 then 0 else 1 - (at - 6) * (at - 6);").due(0, "look", 0, 0).due(0, "look", 0, 23)
        .due(6, "look", 0, 24);
    hour.done("hours", 1).due(6, "look", 0, 23).due(0, "look", 0, 22);
  }

  private static void lookAnswers() {
    Run.bounds(Run::busy, -1, "look", new int[] {0, 0}, 0, 0, 2);
    Run.bounds(Run::busy, -1, "look", new int[] {0, 0}, 1, 0, 24);
    Run.of(CLEAR).done("tell", 0, 7, 0).due(0, "look", 1, 0).done("tell", 0, 8, 0).due(-2, "look", 2, 0).due(-2, "look", 2, 24)
        .due(0, "look", 1, 0).due(-1, "look", 3, 0);
    // one that is left is left from wherever one looks
    Run.of("seen = tall - 8;").done("tell", 0, 7, 0).due(1, "stands", 1).due(0, "look", 1, 0);
  }

  // ---- SLOTS

  private static void holds() {
    for (int slot = 0; slot <= 2; slot++) {
      Run x = Run.of(Run.NOON).due(0, "count", 12).due(1, "hold", slot).due(1, "count", 12).due(1, "hold", slot).due(1, "count", 12);
      for (int other = 0; other <= 2; other++) x.due(other == slot ? 1 : 0, "restore", other);
    }
    Run.bounds(Run::busy, 0, "hold", new int[] {0}, 0, 0, 2);
    // all that goes on, and neither what is TOLD nor the tape, nor what can be undone
    Run x = Run.busy().done("hours", 2).due(1, "hold", 0).due(5, "count", 10).due(2, "count", 11).due(20, "count", 9);
    x.done("hours", 9).done("move", 1, 1).done("lend", 0, 1, 5).done("tell", 3, 3, 3).feed("grace 100;").due(1, "restore", 0);
    x.due(3, "count", 11).due(30, "count", 9).due(0, "count", 10).due(5, "read").due(26, "place");
    long[] first = {3, 102, 2, 1, 11, 0, 12};
    for (int what = 0; what <= 6; what++) x.due(first[what], "seat", 0, what);
    x.due(13, "count", 2).due(1, "loan", 0, 0, 1).due(22, "loan", 1, 1, 0).due(1, "loan", 1, 1, 1).due(36, "seat", 1, 1)
        .due(15, "seat", 1, 0);
    // loans that are GONE are held so
    Run y = Run.busy().done("hours", 4).due(1, "hold", 0).due(2, "count", 8).done("hours", 10).done("lend", 0, 0, 9).due(1, "restore", 0)
        .due(2, "count", 8).due(0, "count", 5);
    // holding once more is in place of what was held
    y.done("hours", 5).due(1, "hold", 0).done("hours", 5).due(1, "restore", 0).due(20, "count", 2);
    // a new object has something to hold, too
    new Run().due(1, "hold", 2).done("hours", 3).due(1, "restore", 2).due(0, "count", 2);
  }

  private static void restores() {
    Run x = Run.busy().done("hours", 5).due(1, "restore", 1).due(10, "count", 2).due(0, "count", 10).due(0, "undo").due(1, "count", 5)
        .due(2, "seat", 0, 0);
    // it stays there, whatever goes on
    x.done("hours", 30).due(1, "count", 10).due(1, "restore", 1).due(10, "count", 2).due(10, "loan", 0, 0, 0).due(0, "undo")
        .due(1, "count", 12);
    x.due(10, "call", 0, 0).due(1, "restore", 1).due(10, "loan", 0, 0, 0).due(90, "seat", 0, 1);
    // what was done ahead of it is not undone later either
    x.done("move", 0, 9).due(1, "count", 10).due(1, "undo").due(0, "undo").due(2, "seat", 0, 0).due(10, "count", 2);
    // the SLOTS do not touch one another
    Run y = new Run();
    for (int slot = 0; slot < 3; slot++) y.due(1, "hold", slot).done("hours", 1);
    y.due(3, "count", 12);
    for (int slot = 2; slot >= 0; slot--) y.due(1, "restore", slot).due(slot, "count", 2).done("hours", 40);
    for (int slot = 0; slot < 3; slot++) y.due(1, "restore", slot).due(slot, "count", 2);
    // undo does not bring back what a SLOT held ahead
    Run z = new Run().done("hours", 1).due(1, "hold", 0).due(1, "undo").due(0, "count", 2).due(1, "count", 12).due(1, "restore", 0)
        .due(1, "count", 2);
    z.due(0, "undo").due(1, "count", 2);
  }

  private static void restoreRefused() {
    Run.unchanged(Run::busy, 0, "restore", 0);
    Run.unchanged(Run::busy, 0, "restore", 2);
    for (int slot : new int[] {-1, 3, Integer.MIN_VALUE, Integer.MAX_VALUE}) Run.unchanged(Run::busy, 0, "restore", slot);
    Run.busy().due(1, "restore", 1);
    new Run().due(0, "restore", 0).due(0, "restore", 1).due(0, "restore", 2);
    // a text lets go of them, one with a FAULT does not
    Run.busy().feed("?").due(1, "read").due(1, "restore", 1);
    Run.busy().due(0, "read").due(0, "restore", 1).due(0, "count", 12);
  }

  // ---- counts

  private static void countBounds() {
    Run.bounds(Run::busy, -1, "count", new int[] {0}, 0, 0, 16);
    Run x = new Run().due(-1, "count", -1).due(-1, "count", 17).due(-1, "count", Integer.MIN_VALUE).due(-1, "count", Integer.MAX_VALUE);
    for (int what = 0; what <= 16; what++) x.due(0, "count", what);
    int[] busy = {2, 2, 11, 11, 0, 2, 30, 129, 0, 20, 4, 2, 1, 0, 9, 12, 3};
    Run y = Run.busy();
    for (int what = 0; what <= 16; what++) y.due(busy[what], "count", what);
    // by any SEAT, of any THING, though there is a WIND
    Run six = Run.of("thing a 0 1;thing b 4 1;thing c 8 1;thing d 12 1;thing e 16 1;thing f 19 1;seat s 0 1;seat u 19 1;heat = 1; winds 100;");
    six.due(33, "count", 16).done("move", 0, 8).due(36, "count", 16).done("move", 1, 8).due(4, "count", 16).done("move", 0, 9)
        .done("move", 1, 9).due(0, "count", 16);
    Run.of("thing a 0 1; seen = 1;").due(0, "count", 16);
    Run.of("thing a 0 1; thing b 1 1; thing c 2 1; thing d 3 1; thing e 4 1; thing f 5 1; seat s 9 1; seen = 1;").due(63, "count", 16);
  }

  private static void countsOfLoans() {
    StringBuilder text = new StringBuilder("heat = 30; seen = if hour < 2 then 1 else 0; interest = 99; grace 4; rent = 1;");
    for (int i = 0; i < 6; i++) text.append("thing t").append((char) ('a' + i)).append(" ").append(i).append(" 1;");
    for (int i = 0; i < 6; i++) text.append("seat s").append((char) ('a' + i)).append(" ").append(i).append(" 600;");
    Run x = Run.of(text.toString()).due(6, "count", 0).due(6, "count", 1).due(3600, "count", 7);
    for (int i = 0; i < 36; i++) x.due(i, "count", 5).due(100 * i, "count", 6).done("lend", i / 6, i % 6, 100);
    x.due(36, "count", 5).due(3600, "count", 6).due(0, "count", 7).due(0, "count", 14);
    x.done("hours", 2).due(72, "count", 14).due(72, "count", 7).due(3600, "count", 6).done("hours", 1).due(36 * 199, "count", 6);
    x.done("hours", 2).due(36, "count", 5).due(0, "count", 8).done("hours", 1).due(0, "count", 5).due(36, "count", 8).due(0, "count", 6)
        .due(72, "count", 7);
    x.due(6, "count", 2).due(6, "count", 3).due(0, "count", 4).done("hours", 17).due(23, "count", 3).due(0, "count", 4).done("hours", 1)
        .due(0, "count", 3);
    x.due(1, "count", 4).due(24, "count", 2);
  }

  private static void countsOfWhatIsKept() {
    Run x = new Run();
    for (int i = 1; i <= 100; i++) x.due(20 * i, "feed", 0, 0, 0, 0, 0);
    x.due(2000, "count", 9).due(1999, "back", 1).due(1999, "count", 9).due(0, "back", 1999).due(0, "count", 9);
    for (int i = 0; i < 32; i++) x.due(Math.min(i, 30), "count", 10).done("hours", 1);
    x.due(30, "count", 10).due(1, "undo").due(29, "count", 10).due(0, "count", 12);
    for (int i = 0; i < 22; i++) x.due(Math.min(i, 20), "count", 11).due(i < 20 ? i : -1, "tell", 0, 0, 0);
    for (int slot = 0; slot < 3; slot++) x.due(1, "hold", slot).due(slot + 1, "count", 12);
    x.due(0, "hold", 3).due(3, "count", 12).due(29, "count", 10).due(20, "count", 11).due(0, "read").due(0, "count", 10).due(0, "count", 11)
        .due(0, "count", 12);
  }

  private static void countOfWinds() {
    for (int seed : new int[] {0, 1, 9999}) {
      Run x = Run.of("winds 50; seed " + seed + "; begins 23;");
      for (int hour = 23; hour < 123; hour++) x.due(HoursBoundsTest.lot(seed, 4 * hour) < 50 ? 1 : 0, "count", 13).done("hours", 1);
    }
    Run.of("winds 100;").due(1, "count", 13);
    Run.of("winds 0;").due(0, "count", 13);
  }
}
