/** The boundary cases of hands and games: promises 19 to 25. */
public final class GamesEdgesTest {
  private static final Checks c = new Checks("GamesEdgesTest");
  private static final int MIN = Integer.MIN_VALUE;
  private static final int MAX = Integer.MAX_VALUE;

  public static void main(String[] args) {
    nextOfNoneAndAll();
    nextThere();
    waitingOfNone();
    waitingOfOne();
    waitingOfAll();
    waitingOfThoseThere();
    waitingOfTheSame();
    waitingWhat();
    twoLags();
    twoOnce();
    chatLess();
    chatNever();
    chatRange();
    trulyTenths();
    trulySkipped();
    trulyOfNoneAndAll();
    trulyRefused();
    spirits();
    lowest();
    bearsFewest();
    bearsOneMore();
    bearsRange();
    changesNothing();
    c.end();
  }

  private static void nextOfNoneAndAll() {
    c.sentence("next: NEXT, the i-th (0 first); -4. -1 i below 0.");
    YouAreOnMute x = new YouAreOnMute();
    c.due("no squares", x.next(0), -4);
    c.due("no squares, below 0", x.next(-1), -1);
    x = Checks.told("s000;".repeat(6));
    c.due("no hands", x.next(0), -4);
    int[] order = {3, 0, 5, 1, 4, 2};
    for (int i = 0; i < 6; i++) {
      x.hands(order[i]);
      c.due("the last one up", x.next(i), order[i]);
      c.due("nobody behind him", x.next(i + 1), -4);
    }
    for (int i = 0; i < 6; i++) {
      c.due("all up, " + i, x.next(i), order[i]);
    }
    c.due("far", x.next(MAX), -4);
    c.due("-1", x.next(-1), -1);
    c.due("-2", x.next(-2), -1);
    c.due("least", x.next(MIN), -1);
  }

  private static void nextThere() {
    c.sentence("NEXT: the one with the HAND up longest, THERE");
    YouAreOnMute x = Checks.told("s000;s400;s000;h1;h0;h2;m1;");
    c.due("muted and frozen", x.next(0), 1);
    x.goes(1);
    c.due("gone", x.next(0), 0);
    x.goes(1);
    c.due("there again, hand down", x.next(0), 0);
    c.due("two", x.next(2), -4);
    x.hands(1);
    c.due("up again is the last", x.next(2), 1);
    x.hands(0);
    c.due("one down", x.next(0), 2);
    x.turns(2, 1);
    c.due("behind a turn", x.next(0), 1);
    c.due("nobody else", x.next(1), -4);
  }

  private static void waitingDue(String text, int byHands, int least, int first) {
    YouAreOnMute x = Checks.told(text);
    c.due("by hands of " + text, x.waiting(0), byHands);
    c.due("least of " + text, x.waiting(1), least);
    c.due("first of " + text, x.waiting(2), first);
  }

  private static void waitingOfNone() {
    c.sentence("HANDS up of those THERE (none)");
    c.due("no squares, by hands", new YouAreOnMute().waiting(0), 0);
    c.due("no squares, least", new YouAreOnMute().waiting(1), 0);
    c.due("no squares, first", new YouAreOnMute().waiting(2), -4);
    waitingDue("s000;s000;", 0, 0, -4);
    waitingDue("s000;h0;h0;", 0, 0, -4);
    waitingDue("s000;h0;o0;", 0, 0, -4);
    waitingDue("s000;h0;t001;", 0, 0, -4);
  }

  private static void waitingOfOne() {
    c.sentence("HANDS up of those THERE (one)");
    waitingDue("s000;h0;", 0, 0, 0);
    waitingDue("s499;h0;", 0, 0, 0);
    waitingDue("s000;s199;s000;h1;", 0, 0, 1);
  }

  private static void waitingOfAll() {
    c.sentence("each taking WAITS tenths and 10 times FIGURE (all six)");
    // They take 55, 45, 35, 25, 15, 5.
    waitingDue("s050;s040;s030;s020;s010;s000;h0;h1;h2;h3;h4;h5;", 55 + 100 + 135 + 160 + 175,
        5 + 20 + 45 + 80 + 125, 5);
    waitingDue("s050;s040;s030;s020;s010;s000;h5;h4;h3;h2;h1;h0;", 5 + 20 + 45 + 80 + 125,
        5 + 20 + 45 + 80 + 125, 5);
    // The most that one takes, a frozen one with 9, and the least, a chair with 0.
    waitingDue("s490;s600;h0;h1;", 99 + 90, 0, 1);
    waitingDue("s600;s490;h0;h1;", 0, 0, 0);
    // A shy one with 9 and 9: 46 and 90; a polite one: 23 and 90; they are two and one of the frozen one.
    waitingDue("s599;s199;s490;h2;h0;h1;", 189 + 189 + 136, 113 + 113 + 136, 1);
    waitingDue("s009;s000;s004;h0;h1;h2;", 14 + 19, 5 + 14, 1);
  }

  private static void waitingOfThoseThere() {
    c.sentence("HANDS up of those THERE");
    waitingDue("s010;s020;s000;h0;h1;h2;o2;", 15, 15, 0);
    waitingDue("s010;s020;s000;h0;h1;h2;o2;o2;", 15, 15, 0);
    waitingDue("s010;s020;s000;h0;h1;h2;o0;", 25, 5, 2);
    waitingDue("s010;s020;s000;h0;h1;h2;m2;", 15 + 40, 5 + 20, 2);
  }

  private static void waitingOfTheSame() {
    c.sentence("the first of that order (of those who take the same, whose HAND is up longer)");
    waitingDue("s000;s000;h1;h0;", 5, 5, 1);
    waitingDue("s000;s000;s000;s000;s000;s000;h4;h5;h0;h1;h2;h3;", 5 + 10 + 15 + 20 + 25,
        5 + 10 + 15 + 20 + 25, 4);
    waitingDue("s010;s000;s000;h0;h2;h1;", 15 + 20, 5 + 10, 2);
  }

  private static void waitingWhat() {
    c.sentence("waiting: by HANDS (what 0), least (1), the first (2; -4). -1.");
    int[] wrong = {-1, 3, MIN, MAX};
    for (int what : wrong) {
      c.due("what " + what, Checks.told("s000;h0;").waiting(what), -1);
      c.due("what " + what + " ahead of nobody", new YouAreOnMute().waiting(what), -1);
    }
  }

  private static void twoLags() {
    c.sentence("who starts first by more than the other's LAG has 20 less the tenths waited, the other 5; "
        + "else 0 each: the first pair (100 the first's and the other's)");
    // The first never waits; the other waits just more than his own lag, for 5.
    for (int lagA = 0; lagA <= 9; lagA += 3) {
      for (int lagB = 0; lagB <= 9; lagB++) {
        YouAreOnMute x = new YouAreOnMute();
        Checks.come(x, Checks.PERSON, 0, lagA);
        Checks.come(x, Checks.SHY, 9, lagB);
        c.due("lags " + lagA + ", " + lagB, x.two(0, 1), lagB + 1);
        c.due("the other way", x.two(1, 0), lagA + 1);
      }
    }
  }

  private static void twoOnce() {
    c.sentence("two: TWO WAIT; -4. -1 (one twice).");
    YouAreOnMute x = Checks.told("s004;s009;");
    c.due("0 twice", x.two(0, 0), -1);
    c.due("1 twice", x.two(1, 1), -1);
    c.due("no such one twice", x.two(2, 2), -1);
    int[] wrong = {-1, 2, MIN, MAX};
    for (int q : wrong) {
      c.due("first " + q, x.two(q, 0), -1);
      c.due("second " + q, x.two(0, q), -1);
    }
    c.due("0 and 1", x.two(0, 1), 10);
    c.due("1 and 0", x.two(1, 0), 5);
    c.due("frozen, muted, gone", Checks.told("s403;s707;m0;o1;").two(0, 1), 8);
  }

  private static void chatLess() {
    c.sentence("1 chat, if c times 10 is less than TENTHS and 10 for each clash");
    c.due("10 against 9", Checks.told("s130;").chat(1), 0);
    c.due("10 against 8", Checks.told("s003;").chat(1), 0);
    c.due("10 against 10", Checks.told("s150;").chat(1), 0);
    c.due("10 against 11", Checks.told("s160;").chat(1), 1);
    c.due("20 against 20", Checks.told("s500;s400;").chat(2), 0);
    c.due("40 against 46", Checks.told("s599;").chat(4), 1);
    c.due("50 against 46", Checks.told("s599;").chat(5), 0);
    c.due("20 against 12 and 10", Checks.told("s000;s100;").chat(2), 1);
    c.due("30 against 12 and 10", Checks.told("s000;s100;").chat(3), 0);
    // 5 and 6, and one clash: 21.
    c.due("20 against 11 and 10", Checks.told("s000;s000;s110;").chat(2), 1);
    c.due("30 against 11 and 10", Checks.told("s000;s000;s110;").chat(3), 0);
    // 9 and 11, and one clash: 30.
    c.due("30 against 20 and 10", Checks.told("s004;s140;").chat(3), 0);
    c.due("20 against 20 and 10", Checks.told("s004;s140;").chat(2), 1);
    c.due("0 tenths", Checks.told("s600;").chat(1), 0);
    c.due("990 against 1370 and 320", Checks.told("s009;s180;s506;s170;s591;s562;").chat(99), 1);
  }

  private static void chatNever() {
    c.sentence("or it never ends");
    c.due("no squares", new YouAreOnMute().chat(99), 1);
    c.due("two for ever", Checks.told("s000;s000;").chat(99), 1);
    c.due("two, one muted", Checks.told("s000;s000;m1;").chat(99), 0);
    c.due("nobody who can", Checks.told("s400;s000;m1;").chat(99), 1);
    c.due("all six for ever", Checks.told("s000;".repeat(6)).chat(99), 1);
  }

  private static void chatRange() {
    c.sentence("an answer of c (1 .. 99) seconds' typing. -1.");
    YouAreOnMute x = Checks.told("s160;");
    YouAreOnMute never = new YouAreOnMute();
    c.due("1", x.chat(1), 1);
    c.due("99", x.chat(99), 0);
    int[] wrong = {0, 100, -1, MIN, MAX};
    for (int seconds : wrong) {
      c.due("c " + seconds, x.chat(seconds), -1);
      c.due("c " + seconds + ", never ends", never.chat(seconds), -1);
    }
  }

  /** Of one square alone, in a row of shorts. */
  private static void answered(String text, int tenths, int due) {
    YouAreOnMute x = Checks.told(text);
    Checks.fill(x, 0, Checks.SHORTS, tenths);
    c.due(tenths + " tenths of " + text, x.truly(0), due);
  }

  private static void trulyTenths() {
    c.sentence("no sooner than WAITS, no later than WAITS, NOTICES and LAG together");
    String[] texts = {"s000;", "s099;", "s100;", "s199;", "s200;", "s299;", "s399;", "s400;", "s409;",
        "s599;", "s600;", "s699;", "s799;"};
    int[] soonest = {5, 14, 5, 23, 2, 11, 14, 99, 99, 46, 0, 9, 99};
    int[] latest = {15, 42, 25, 70, 8, 35, 42, 198, 207, 93, 3, 25, 207};
    for (int i = 0; i < texts.length; i++) {
      answered(texts[i], soonest[i] - 1, 0);
      answered(texts[i], soonest[i], 1);
      answered(texts[i], latest[i], 1);
      answered(texts[i], latest[i] + 1, 0);
    }
    answered("s000;m0;o0;", 5, 1);
    answered("s000;", -5, 0);
    answered("s000;", 32767, 0);
  }

  private static void trulySkipped() {
    c.sentence("(the least number of the SORT is skipped)");
    YouAreOnMute x = Checks.told("s000;s000;s000;");
    int[] sorts = {Checks.BYTES, Checks.SHORTS, Checks.INTS};
    int[] leasts = {-128, -32768, MIN};
    for (int i = 0; i < 3; i++) {
      Checks.fill(x, 0, sorts[i], leasts[i], 5, leasts[i]);
      c.due("all but one of sort " + i, x.truly(0), 2);
      Checks.fill(x, 0, sorts[i], leasts[i], leasts[i], leasts[i]);
      c.due("all of sort " + i, x.truly(0), 0);
      Checks.fill(x, 0, sorts[i], 5, leasts[i], 5);
      c.due("the others of sort " + i, x.truly(0), 5);
    }
  }

  private static void trulyOfNoneAndAll() {
    c.sentence("a ROW tells for SQUARES 0, 1, .. (none, all six)");
    YouAreOnMute x = new YouAreOnMute();
    x.row(0, Checks.BYTES, 0);
    c.due("no squares, no numbers", x.truly(0), 0);
    Checks.tell(x, "s000;".repeat(6));
    c.due("six squares, no numbers", x.truly(0), 0);
    Checks.fill(x, 0, Checks.BYTES, 5);
    c.due("one number", x.truly(0), 1);
    Checks.fill(x, 0, Checks.INTS, 5, 6, 7, 8, 9, 10);
    c.due("six numbers", x.truly(0), 63);
    Checks.fill(x, 0, Checks.INTS, 4, 5, 15, 16, 5, 5);
    c.due("four of six", x.truly(0), 2 + 4 + 16 + 32);
    Checks.fill(x, 0, Checks.BYTES, 5 + 256, 15 - 256);
    c.due("by their lowest bits", x.truly(0), 3);
    c.due("who answers is there as before", x.count(3), 63);
  }

  private static void trulyRefused() {
    c.sentence("truly: -1, -11, -12 (no ROW), -13 more numbers than SQUARES");
    for (int n = 0; n <= 6; n++) {
      YouAreOnMute x = n == 0 ? new YouAreOnMute() : Checks.told("s000;".repeat(n));
      x.row(0, Checks.BYTES, n);
      c.due("as many, " + n, x.truly(0), 0);
      x.row(0, Checks.BYTES, n + 1);
      c.due("one more than " + n, x.truly(0), -13);
      x.row(0, Checks.INTS, 100);
      c.due("a hundred", x.truly(0), -13);
      int[] skipped = new int[n + 1];
      java.util.Arrays.fill(skipped, -128);
      Checks.fill(x, 0, Checks.BYTES, skipped);
      c.due("one more than " + n + ", all skipped", x.truly(0), -13);
    }
    YouAreOnMute x = Checks.told("s000;");
    int[] wrong = {-1, 8, MIN, MAX};
    for (int d : wrong) {
      c.due("shelf " + d, x.truly(d), -1);
    }
    c.due("nothing", x.truly(0), -11);
    x.keep(0, 1, Checks.GHOST, 0);
    c.due("a ghost", x.truly(0), -12);
  }

  private static void spirits() {
    c.sentence("SPIRITS together");
    c.due("no squares", new YouAreOnMute().spirits(0), 0);
    YouAreOnMute x = Checks.told("s000;".repeat(6));
    c.due("six", x.spirits(0), 60);
    x.goes(5);
    c.due("one gone", x.spirits(0), 60);
    x.laughs(0);
    c.due("one laughs, four hear", x.spirits(0), 60 + 1 + 8);
    YouAreOnMute low = Checks.told("s000;l0;l0;l0;l0;");
    c.due("0 at least", low.spirits(0), 0);
    int[] wrong = {-1, 2, MIN, MAX};
    for (int what : wrong) {
      c.due("what " + what, x.spirits(what), -1);
      c.due("what " + what + " ahead of nobody", new YouAreOnMute().spirits(what), -1);
    }
  }

  private static void lowest() {
    c.sentence("LOWEST: the one THERE with the least, of several the least; -4");
    c.due("no squares", new YouAreOnMute().spirits(1), -4);
    c.due("nobody there", Checks.told("s000;s000;o0;o1;").spirits(1), -4);
    c.due("all the same", Checks.told("s000;".repeat(6)).spirits(1), 0);
    c.due("the first gone", Checks.told("s000;".repeat(6) + "o0;").spirits(1), 1);
    c.due("the first five gone", Checks.told("s000;".repeat(6) + "o0;o1;o2;o3;o4;").spirits(1), 5);
    c.due("one lower", Checks.told("s000;s000;s000;s000;l1;").spirits(1), 1);
    c.due("the last one", Checks.told("s000;s000;s000;m2;l2;").spirits(1), 2);
    c.due("two of three", Checks.told("s000;s000;s000;m2;l2;m1;l1;").spirits(1), 1);
    c.due("the lowest gone", Checks.told("s000;s000;m1;l1;o1;").spirits(1), 0);
    c.due("the lowest there again", Checks.told("s000;s000;m1;l1;o1;o1;").spirits(1), 1);
    c.due("with 0", Checks.told("s000;s000;m1;l1;l1;l1;l1;l1;").spirits(1), 1);
  }

  private static void bearsDue(String text, int g, int fewest, int tenths) {
    YouAreOnMute x = Checks.told(text);
    c.due("with lag " + g + " bears " + text, x.bears(g, 0), fewest);
    c.due("one more with lag " + g + ", " + text, x.bears(g, 1), tenths);
  }

  private static void bearsFewest() {
    c.sentence("BEARS: .. the fewest more (0 .. 6) with which a PAUSE never ends; -4");
    c.due("no squares: none", new YouAreOnMute().bears(0, 0), 0);
    bearsDue("s000;s000;", 0, 0, -4);
    bearsDue("s400;", 0, 0, 5);
    bearsDue("s000;m0;", 0, 0, 5);
    bearsDue("s000;o0;", 0, 0, 5);
    bearsDue("s000;", 0, 1, -4);
    bearsDue("s001;", 1, 1, -4);
    // Two more clash with each other for ever where the others leave room.
    bearsDue("s599;", 0, 2, 5);
    bearsDue("s599;", 9, 2, 14);
    bearsDue("s190;", 1, 2, 6);
    bearsDue("s190;", 0, -4, 5);
    bearsDue("s600;", 0, -4, 0);
    bearsDue("s600;", 9, -4, 0);
    bearsDue("s200;", 0, -4, 2);
    c.sentence("PERSONS .. are more (beside six SQUARES, too)");
    bearsDue("s599;s400;s400;s400;s400;s400;", 0, 2, 5);
    bearsDue("s000;s400;s400;s400;s400;s400;", 0, 1, -4);
    bearsDue("s400;s400;s400;s400;s400;s400;", 0, 0, 5);
    bearsDue("s600;s100;s100;s100;s100;s100;", 0, -4, 0);
  }

  private static void bearsOneMore() {
    c.sentence("TENTHS with one more; -4 (FIGURE 0, LAG g, THERE and not MUTED)");
    for (int g = 0; g <= 9; g++) {
      c.due("alone with lag " + g, new YouAreOnMute().bears(g, 1), 5 + g);
    }
    bearsDue("s100;", 0, -4, 5 + 7);
    // 5 and 7 with a lag of 2; then 10 and 9, and the polite one has no lag.
    bearsDue("s100;", 2, 2, 5 + 9);
    bearsDue("s500;", 5, 2, 10 + 12);
  }

  private static void bearsRange() {
    c.sentence("bears: BEARS with LAG g: how many (what 0; -4), TENTHS with one more (1; -4). -1.");
    YouAreOnMute x = Checks.told("s600;");
    c.due("g 0", x.bears(0, 0), -4);
    c.due("g 9", x.bears(9, 0), -4);
    int[] wrongLags = {-1, 10, MIN, MAX};
    for (int g : wrongLags) {
      c.due("g " + g, x.bears(g, 0), -1);
      c.due("g " + g + ", tenths", x.bears(g, 1), -1);
    }
    int[] wrongWhats = {-1, 2, MIN, MAX};
    for (int what : wrongWhats) {
      c.due("what " + what, x.bears(0, what), -1);
    }
    c.due("nobody came", x.count(0), 1);
  }

  private static void changesNothing() {
    c.sentence("hands, games (what is only asked changes nothing)");
    YouAreOnMute x = Checks.told("s003;s140;s319;s209;s400;h1;h0;h4;m2;t012;l1;o3;");
    String before = Checks.all(x);
    Checks.fill(x, 0, Checks.SHORTS, 8, 9, 14, 11, 99);
    for (int what = 0; what <= 2; what++) {
      x.waiting(what);
      x.spirits(what);
      x.bears(3, what);
    }
    for (int q = 0; q < 5; q++) {
      x.next(q);
      x.two(q, 0);
      x.two(0, q);
    }
    x.chat(5);
    c.due("truly", x.truly(0), 31);
    c.same("all", Checks.all(x), before);
    c.due("who is next", x.next(0), 1);
    c.due("who is behind", x.next(1), 4);
    c.due("the row", x.element(0, 4), 99);
  }
}
