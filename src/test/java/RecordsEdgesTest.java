/** The boundary cases of records, meetings and the image: promises 26 to 32, and of 512 calls. */
public final class RecordsEdgesTest {
  private static final Checks c = new Checks("RecordsEdgesTest");
  private static final int MIN = Integer.MIN_VALUE;
  private static final int MAX = Integer.MAX_VALUE;

  public static void main(String[] args) {
    cookedOfNoneAndAll();
    cookedWhileMuted();
    cookedFigures();
    recordOfAHundred();
    forgedPair();
    unwholePair();
    recordSquares();
    recordNoise();
    recordRefusals();
    judgedSpeakers();
    judgedSkipped();
    judgedOfNoneAndAll();
    judgedRefused();
    draws();
    seedsThatWrap();
    meetingsOfSquares();
    meetingsRange();
    changesNothing();
    imageOfNothing();
    imageOfAll();
    imageOfLast();
    imageButShelves();
    counts();
    countsOfNoneAndAll();
    calls512();
    c.end();
  }

  private static int[] many(int n, int... pair) {
    int[] all = new int[n];
    for (int i = 0; i < n; i++) {
      all[i] = pair[i % pair.length];
    }
    return all;
  }

  private static void cookedDue(String what, YouAreOnMute x, int f, int howMany, int least, int forged) {
    c.due("how many, " + what, x.cooked(0, f, 0), howMany);
    c.due("the least, " + what, x.cooked(0, f, 1), least);
    c.due("forged, " + what, x.forged(0, f), forged);
  }

  private static void cookedOfNoneAndAll() {
    c.sentence("COOKED: a ROW of pairs (none) .. SQUARES (none, all six)");
    YouAreOnMute x = new YouAreOnMute();
    x.row(0, Checks.BYTES, 0);
    cookedDue("no squares, no pairs", x, 4, 0, -4, -4);
    Checks.fill(x, 0, Checks.BYTES, 9, 4);
    cookedDue("no squares, one pair", x, 4, 0, -4, 0);
    Checks.fill(x, 0, Checks.BYTES, 9, 0);
    cookedDue("no squares, no noise", x, 0, 0, -4, 0);
    Checks.tell(x, "s000;".repeat(6));
    x.row(0, Checks.BYTES, 0);
    cookedDue("six squares, no pairs", x, 4, 6, 0, -4);
    Checks.fill(x, 0, Checks.BYTES, 9, 4);
    cookedDue("six squares, one pair", x, 4, 6, 0, -4);
    Checks.fill(x, 0, Checks.BYTES, 0, 4, 1, 4, 2, 4, 3, 4, 4, 4);
    cookedDue("the last of six", x, 4, 1, 5, -4);
    Checks.fill(x, 0, Checks.BYTES, 0, 4, 1, 4, 2, 4, 3, 4, 4, 4, 5, 4);
    cookedDue("none of six", x, 4, 0, -4, 5);
  }

  private static void cookedWhileMuted() {
    c.sentence("one alone made it, being a COOK of FIGURE f (none while MUTED)");
    YouAreOnMute x = Checks.told("s000;s000;s000;");
    Checks.fill(x, 0, Checks.BYTES, 1, 0);
    cookedDue("silent as one was muted", x, 4, 1, 1, -4);
    Checks.fill(x, 0, Checks.BYTES, 1, 4);
    cookedDue("noise as one was muted", x, 4, 2, 0, -4);
    Checks.fill(x, 0, Checks.BYTES, 0, 4);
    cookedDue("noise as the first was muted", x, 4, 2, 1, -4);
    Checks.fill(x, 0, Checks.BYTES, 9, 0);
    cookedDue("silent as none was muted", x, 4, 0, -4, 0);
    Checks.fill(x, 0, Checks.BYTES, 1, 3);
    cookedDue("too little noise", x, 4, 0, -4, 0);
    Checks.fill(x, 0, Checks.BYTES, 1, 5);
    cookedDue("too much noise", x, 4, 0, -4, 0);
    YouAreOnMute gone = Checks.told("s359;s400;m0;o1;");
    Checks.fill(gone, 0, Checks.BYTES, 9, 4);
    cookedDue("whoever they are now", gone, 4, 2, 0, -4);
  }

  private static void cookedFigures() {
    c.sentence("a COOK of FIGURE f (0 .. 9)");
    YouAreOnMute x = Checks.told("s000;s000;");
    Checks.fill(x, 0, Checks.BYTES, 9, 0, 0, 0, 1, 0);
    cookedDue("figure 0 makes none", x, 0, 2, 0, -4);
    Checks.fill(x, 0, Checks.BYTES, 9, 9, 0, 0);
    cookedDue("figure 9", x, 9, 1, 0, -4);
    cookedDue("figure 8", x, 8, 0, -4, 0);
    int[] wrong = {-1, 10, MIN, MAX};
    for (int f : wrong) {
      cookedDue("figure " + f, x, f, -1, -1, -1);
    }
  }

  private static void recordOfAHundred() {
    c.sentence("a ROW of pairs (100 elements)");
    YouAreOnMute x = Checks.told("s000;s000;s000;");
    Checks.fill(x, 0, Checks.SHORTS, many(100, 9, 4));
    cookedDue("all fifty fit", x, 4, 3, 0, -4);
    x.put(0, 99, 0);
    cookedDue("the last doesn't", x, 4, 0, -4, 49);
    x.put(0, 98, 2);
    cookedDue("the last fits one", x, 4, 1, 2, -4);
    x.put(0, 0, 2);
    cookedDue("the first doesn't fit him", x, 4, 0, -4, 49);
    x.put(0, 99, 10);
    cookedDue("the last noise is none", x, 4, -13, -13, -13);
    x.put(0, 99, 4);
    x.put(0, 98, 3);
    cookedDue("the last square is none", x, 4, -13, -13, -13);
  }

  private static void forgedPair() {
    c.sentence("FORGED: the first pair up to which no one fits (0 first); -4");
    YouAreOnMute x = Checks.told("s000;s000;");
    Checks.fill(x, 0, Checks.INTS, 9, 5, 9, 4);
    cookedDue("the first", x, 4, 0, -4, 0);
    Checks.fill(x, 0, Checks.INTS, 9, 4, 9, 5);
    cookedDue("the second", x, 4, 0, -4, 1);
    Checks.fill(x, 0, Checks.INTS, 0, 4, 1, 4);
    cookedDue("each has one, both have none", x, 4, 0, -4, 1);
    Checks.fill(x, 0, Checks.INTS, 0, 4, 9, 4, 1, 4, 9, 4);
    cookedDue("the third", x, 4, 0, -4, 2);
    Checks.fill(x, 0, Checks.INTS, 0, 4, 0, 4, 9, 4, 0, 4);
    cookedDue("none", x, 4, 1, 1, -4);
  }

  private static void unwholePair() {
    c.sentence("-13 (an unwhole pair)");
    YouAreOnMute x = Checks.told("s000;");
    for (int n = 0; n <= 4; n++) {
      Checks.fill(x, 0, Checks.BYTES, many(n, 9, 4));
      c.due("row of " + n, x.cooked(0, 4, 0), n % 2 == 0 ? 1 : -13);
      c.due("row of " + n + ", forged", x.forged(0, 4), n % 2 == 0 ? -4 : -13);
    }
    Checks.fill(x, 0, Checks.BYTES, many(99, 9, 4));
    c.due("row of 99", x.cooked(0, 4, 1), -13);
    c.due("row of 99, forged", x.forged(0, 4), -13);
  }

  private static void recordSquares() {
    c.sentence("-13 (no such SQUARE nor 9)");
    for (int n = 1; n <= 6; n++) {
      YouAreOnMute x = Checks.told("s000;".repeat(n));
      int[] squares = {-128, -1, 0, n - 1, n, 7, 8, 9, 10, 127};
      for (int q : squares) {
        boolean there = q >= 0 && q < n;
        Checks.fill(x, 0, Checks.BYTES, q, 4);
        c.due("square " + q + " of " + n, x.cooked(0, 4, 0), there ? n - 1 : q == 9 ? n : -13);
        c.due("square " + q + " of " + n + ", forged", x.forged(0, 4),
            there ? (n == 1 ? 0 : -4) : q == 9 ? -4 : -13);
      }
    }
    YouAreOnMute none = new YouAreOnMute();
    Checks.fill(none, 0, Checks.BYTES, 0, 4);
    cookedDue("square 0 of none", none, 4, -13, -13, -13);
    YouAreOnMute x = Checks.told("s000;");
    Checks.fill(x, 0, Checks.INTS, 9 + 256, 4);
    cookedDue("not by its lowest bits", x, 4, -13, -13, -13);
    Checks.fill(x, 0, Checks.BYTES, 9 + 256, 4);
    cookedDue("bytes by their lowest bits", x, 4, 1, 0, -4);
    Checks.fill(x, 0, Checks.INTS, MIN, 4);
    cookedDue("the least number is not skipped", x, 4, -13, -13, -13);
  }

  private static void recordNoise() {
    c.sentence("-13 (NOISE not 0 .. 9)");
    YouAreOnMute x = Checks.told("s000;");
    int[] noises = {-1, 0, 4, 9, 10, -128, 127};
    for (int noise : noises) {
      Checks.fill(x, 0, Checks.BYTES, 9, noise);
      boolean inside = noise >= 0 && noise <= 9;
      c.due("noise " + noise, x.cooked(0, 9, 0), !inside ? -13 : noise == 9 ? 1 : 0);
      c.due("noise " + noise + ", forged", x.forged(0, 9), !inside ? -13 : noise == 9 ? -4 : 0);
    }
    Checks.fill(x, 0, Checks.BYTES, 9, 5, 9, 10);
    cookedDue("a noise of 10 behind one that doesn't fit", x, 4, -13, -13, -13);
  }

  private static void recordRefusals() {
    c.sentence("cooked: -1, -11, -12 (no ROW), -13; forged likewise");
    YouAreOnMute x = Checks.told("s000;");
    int[] shelves = {-1, 8, MIN, MAX};
    for (int d : shelves) {
      c.due("shelf " + d, x.cooked(d, 4, 0), -1);
      c.due("shelf " + d + ", forged", x.forged(d, 4), -1);
    }
    int[] whats = {-1, 2, MIN, MAX};
    x.keep(1, 1, Checks.COOK, 4);
    Checks.fill(x, 2, Checks.BYTES, 9);
    for (int d = 0; d <= 2; d++) {
      for (int what : whats) {
        c.due("what " + what + " ahead of shelf " + d, x.cooked(d, 4, what), -1);
      }
      c.due("figure 10 ahead of shelf " + d, x.cooked(d, 10, 0), -1);
      c.due("figure 10 ahead of shelf " + d + ", forged", x.forged(d, 10), -1);
    }
    cookedDue("nothing", x, 4, -11, -11, -11);
    x.keep(0, 1, Checks.COOK, 4);
    cookedDue("a cook", x, 4, -12, -12, -12);
  }

  private static void judgeDue(YouAreOnMute x, int due, int sort, int... numbers) {
    Checks.fill(x, 0, sort, numbers);
    c.due("judged " + java.util.Arrays.toString(numbers) + " of sort " + sort, x.judge(0), due);
  }

  private static void judgedSpeakers() {
    c.sentence("JUDGED: .. each by the one who SPOKE being MUTED then: the first that is not so (9 nobody)");
    YouAreOnMute x = Checks.told("s200;s000;s190;s400;");
    judgeDue(x, -4, Checks.BYTES, 0, 1, 2, 9, 9, 9);
    judgeDue(x, 0, Checks.BYTES, 1, 1, 2);
    judgeDue(x, 0, Checks.BYTES, 9, 1, 2);
    judgeDue(x, 1, Checks.BYTES, 0, 0, 1);
    judgeDue(x, 2, Checks.BYTES, 0, 1, 0);
    judgeDue(x, 2, Checks.BYTES, 0, 1, 1);
    judgeDue(x, 3, Checks.BYTES, 0, 1, 2, 3);
    judgeDue(x, 3, Checks.BYTES, 0, 1, 2, 2);
    judgeDue(x, 4, Checks.BYTES, 0, 1, 2, 9, -4);
    int[] strange = {-1, 3, 4, 6, 8, 10, 127, -127};
    for (int number : strange) {
      judgeDue(x, 0, Checks.BYTES, number);
    }
    YouAreOnMute clash = Checks.told("s001;s001;s500;");
    judgeDue(clash, -4, Checks.BYTES, 9, 9, 9);
    judgeDue(clash, 0, Checks.BYTES, 0);
    clash.mutes(0);
    judgeDue(clash, -4, Checks.BYTES, 1, 2, 9);
    clash.goes(1);
    judgeDue(clash, -4, Checks.BYTES, 2, 9);
  }

  private static void judgedSkipped() {
    c.sentence("(.. the least number of the SORT is skipped)");
    YouAreOnMute x = Checks.told("s200;s000;s190;");
    int[] leasts = {-128, -32768, MIN};
    for (int sort = 0; sort <= 2; sort++) {
      int least = leasts[sort];
      judgeDue(x, -4, sort, least);
      judgeDue(x, -4, sort, least, least, least, least);
      judgeDue(x, -4, sort, least, 1, least, 9);
      judgeDue(x, 1, sort, least, 0);
      judgeDue(x, 2, sort, 0, least, 1);
      judgeDue(x, 0, sort, least + 1);
    }
    judgeDue(x, 0, Checks.SHORTS, -128);
    judgeDue(x, 0, Checks.INTS, -128);
    judgeDue(x, 0, Checks.INTS, -32768);
    judgeDue(x, -4, Checks.BYTES, 128);
    judgeDue(x, -4, Checks.BYTES, MIN + 128);
    judgeDue(x, -4, Checks.SHORTS, 32768);
  }

  private static void judgedOfNoneAndAll() {
    c.sentence("a ROW tells who SPEAKS in PAUSES (none, a hundred)");
    YouAreOnMute x = Checks.told("s200;s000;s190;");
    judgeDue(x, -4, Checks.BYTES);
    int[] hundred = many(100, 9);
    hundred[0] = 0;
    hundred[1] = 1;
    hundred[2] = 2;
    judgeDue(x, -4, Checks.INTS, hundred);
    hundred[99] = 0;
    judgeDue(x, 99, Checks.INTS, hundred);
    c.sentence("JUDGED (no SQUARES, six)");
    YouAreOnMute none = new YouAreOnMute();
    judgeDue(none, -4, Checks.BYTES, 9);
    judgeDue(none, 1, Checks.BYTES, 9, 0);
    YouAreOnMute six = Checks.told("s190;s150;s000;s110;s600;s170;");
    judgeDue(six, -4, Checks.BYTES, 4, 2, 3, 1, 5, 0, 9);
    judgeDue(six, 6, Checks.BYTES, 4, 2, 3, 1, 5, 0, 0);
  }

  private static void judgedRefused() {
    c.sentence("judge: -1, -11, -12");
    YouAreOnMute x = Checks.told("s000;");
    int[] shelves = {-1, 8, MIN, MAX};
    for (int d : shelves) {
      c.due("shelf " + d, x.judge(d), -1);
    }
    c.due("nothing", x.judge(0), -11);
    x.keep(0, 1, Checks.CHAIR, 1);
    c.due("a chair", x.judge(0), -12);
    x.row(0, Checks.SHORTS, 0);
    c.due("a row", x.judge(0), -4);
  }

  /** As the document says it, by long numbers. */
  private static int[] drawn(int z, int draws) {
    int[] all = new int[draws];
    long seed = z;
    for (int i = 0; i < draws; i++) {
      seed = seed * 1103515245L + 12345L;
      seed = seed & 0xffffffffL;
      long without = seed & 0x7fffffffL;
      all[i] = (int) (without / 65536L % (i % 2 == 0 ? 10 : 2));
    }
    return all;
  }

  private static void meetingsDue(String text, int n, int z) {
    YouAreOnMute x = Checks.told(text);
    int squares = x.count(0);
    int[] draws = drawn(z, 2 * squares * n);
    int ends = 0;
    int tenths = 0;
    int at = 0;
    for (int i = 0; i < n; i++) {
      YouAreOnMute one = new YouAreOnMute();
      for (int q = 0; q < squares; q++) {
        Checks.come(one, x.square(q, 0), x.square(q, 1), draws[at]);
        if (draws[at + 1] == 1) {
          one.mutes(q);
        }
        if (x.square(q, 4) == 0) {
          one.goes(q);
        }
        at += 2;
      }
      if (one.pause(0) >= 0) {
        ends++;
        tenths += one.pause(1);
      }
    }
    c.due(n + " meetings of " + text + " with " + z, x.meetings(n, z, 0), ends);
    c.due("tenths of " + n + " meetings of " + text + " with " + z, x.meetings(n, z, 1), tenths);
  }

  private static void draws() {
    c.sentence("LAG of each a DRAW below 10, MUTED by a DRAW below 2 (by numbers, both one behind the other)");
    // Of 0 the draws are 0 and 0, then 8 and 1.
    YouAreOnMute x = Checks.told("s007;");
    c.due("first, not muted, lag 0", x.meetings(1, 0, 1), 5);
    c.due("second, muted", x.meetings(2, 0, 0), 1);
    // And of two squares in one meeting the second has these.
    x = Checks.told("s007;s600;");
    c.due("the chair is muted", x.meetings(1, 0, 1), 5);
    x = Checks.told("s600;s007;");
    c.due("the chair speaks", x.meetings(1, 0, 1), 0);
    c.due("one ends", x.meetings(1, 0, 0), 1);
    meetingsDue("s000;s100;s200;s300;s500;s600;", 20, 5);
  }

  private static void seedsThatWrap() {
    c.sentence("z becomes z times 1103515245 plus 12345 (an int); (z without its sign's bit over 65536, cut)");
    int[] seeds = {0, 1, -1, 2, -2, 65535, 65536, -65536, MAX, MIN, MAX - 1, MIN + 1, 1103515245, -12345,
        0x7fff0000, 0x80008000};
    for (int z : seeds) {
      meetingsDue("s000;s140;s320;s550;", 20, z);
      meetingsDue("s000;", 7, z);
    }
  }

  private static void meetingsOfSquares() {
    c.sentence("in how many a PAUSE ends (no SQUARES, all six)");
    YouAreOnMute none = new YouAreOnMute();
    c.due("no squares", none.meetings(20, 7, 0), 0);
    c.due("no squares, tenths", none.meetings(20, 7, 1), 0);
    c.due("a frozen one", Checks.told("s400;").meetings(20, 7, 0), 0);
    c.due("one gone", Checks.told("s000;o0;").meetings(20, 7, 0), 0);
    meetingsDue("s000;s140;s209;s359;s550;s600;", 20, 7);
    meetingsDue("s000;s140;s209;s359;s550;s600;o0;o5;", 20, 7);
    meetingsDue("s000;s000;s000;s000;s000;s000;", 20, 123456);
    c.sentence("the own LAG and MUTED now do not matter, THERE does");
    c.due("as lag and muted were", Checks.told("s109;s203;m0;m1;").meetings(20, 99, 1),
        Checks.told("s100;s200;").meetings(20, 99, 1));
  }

  private static void meetingsRange() {
    c.sentence("n meetings (1 .. 20): how many (what 0), TENTHS (1). -1.");
    meetingsDue("s000;s140;", 1, 3);
    meetingsDue("s000;s140;", 20, 3);
    YouAreOnMute x = Checks.told("s000;");
    int[] wrong = {0, 21, -1, MIN, MAX};
    for (int n : wrong) {
      c.due("n " + n, x.meetings(n, 3, 0), -1);
      c.due("n " + n + ", tenths", x.meetings(n, 3, 1), -1);
    }
    int[] whats = {-1, 2, MIN, MAX};
    for (int what : whats) {
      c.due("what " + what, x.meetings(1, 3, what), -1);
    }
  }

  private static void changesNothing() {
    c.sentence("records, meetings (what is only asked changes nothing)");
    YouAreOnMute x = Checks.told("s003;s140;s319;s209;s400;h1;h0;h4;m2;t012;l1;o3;");
    x.image();
    String before = Checks.all(x);
    Checks.fill(x, 0, Checks.SHORTS, 0, 1, 9, 9);
    Checks.fill(x, 1, Checks.BYTES, 9, 4, 0, 4);
    x.judge(0);
    x.cooked(1, 4, 0);
    x.forged(1, 4);
    x.meetings(20, 7, 0);
    x.meetings(20, 7, 1);
    c.same("all", Checks.all(x), before);
    c.due("waits", x.square(0, 7), 8);
    c.due("who is next", x.next(0), 1);
    c.due("meetings again", x.meetings(20, 7, 1), x.meetings(20, 7, 1));
    x.restore();
    c.same("all of the image", Checks.all(x), before);
    c.due("the rows", x.element(0, 3) + x.element(1, 3), 13);
  }

  private static void imageOfNothing() {
    c.sentence("restore: THE IMAGE is RESTORED: CLOCK. -3 there is none.");
    YouAreOnMute x = Checks.told("s000;h0;t005;");
    c.due("none", x.restore(), -3);
    c.due("none still", x.restore(), -3);
    c.due("nothing changed", x.count(0) * 10 + x.count(1), 15);
    YouAreOnMute empty = new YouAreOnMute();
    c.due("of no squares", empty.image(), 0);
    Checks.tell(empty, "s000;".repeat(6) + "t099;");
    c.due("clock", empty.restore(), 0);
    c.due("no squares", empty.count(0), 0);
    c.due("none to ask of", empty.square(0, 0), -1);
    c.due("the first comes again", Checks.come(empty, 0, 0, 0), 0);
  }

  private static void imageOfAll() {
    c.sentence("THE IMAGE: all that there is .. RESTORED all is as it was then");
    YouAreOnMute x = Checks.told("s003;s140;s319;s209;s400;s551;h1;h5;h0;m2;t012;l1;o3;");
    c.due("clock", x.image(), 12);
    String before = Checks.all(x);
    c.due("much happens", Checks.tell(x, "m0;m1;m2;o0;o3;h4;h1;l5;t350;"), 9);
    c.due("clock now", x.count(1) > 12 ? 1 : 0, 1);
    c.due("restored", x.restore(), 12);
    c.same("all", Checks.all(x), before);
    int[] waits = {8, 9, 14, 11, 99, 22};
    for (int q = 0; q < 6; q++) {
      c.due("waits of " + q, x.square(q, 7), waits[q]);
    }
    c.due("who was next", x.next(0) * 10 + x.next(1), 15);
    c.due("told as then", x.told(0, 0) * 10 + x.told(0, 1), 13);
    c.due("restored once more", x.restore(), 12);
    c.same("all once more", Checks.all(x), before);
  }

  private static void imageOfLast() {
    c.sentence("image: THE IMAGE is taken: CLOCK.");
    YouAreOnMute x = Checks.told("s000;t005;");
    c.due("first", x.image(), 5);
    Checks.tell(x, "s100;t006;");
    c.due("second", x.image(), 11);
    Checks.tell(x, "s200;t007;");
    c.due("back to the second", x.restore(), 11);
    c.due("two squares", x.count(0), 2);
    x.mutes(0);
    c.due("back again", x.restore(), 11);
    c.due("not muted", x.count(2), 0);
    c.due("an image of what was restored", x.image(), 11);
    c.due("restored", x.restore(), 11);
    YouAreOnMute late = Checks.told("s000;");
    for (int i = 0; i < 101; i++) {
      late.turns(0, 99);
    }
    c.due("clock 9999", late.image(), 9999);
    c.due("full", late.turns(0, 1), -3);
    c.due("restored", late.restore(), 9999);
  }

  private static void imageButShelves() {
    c.sentence("but SHELVES (and THE IMAGE): when THE IMAGE is RESTORED, SHELVES stay as they are");
    YouAreOnMute x = new YouAreOnMute();
    x.keep(0, 1, Checks.COOK, 3);
    Checks.fill(x, 1, Checks.SHORTS, 1, 2, 3);
    x.image();
    x.keep(0, 1, Checks.SHY, 3);
    x.keep(1, 0, 0, 0);
    Checks.fill(x, 2, Checks.INTS, 70000);
    x.restore();
    c.due("a shy one still", x.cost(0), 14);
    c.due("nothing still", x.cost(1), -11);
    c.due("a row still", x.element(2, 0), 70000);
    x.row(2, Checks.BYTES, 0);
    x.restore();
    c.due("an empty row still", x.put(2, 0, 0), -13);
  }

  private static void counts() {
    c.sentence("count: 0 SQUARES .. 7 all NOISE of those THERE and not MUTED; -1 for others");
    YouAreOnMute x = Checks.told("s003;s240;s359;s402;s391;s309;m2;o4;h0;h3;t105;");
    int[] due = {6, 5, 4, 1 + 2 + 4 + 8 + 32, 2, 1 + 2 + 32, 3 + 9 + 2 + 1 + 9, 1};
    for (int what = 0; what <= 7; what++) {
      c.due("count " + what, x.count(what), due[what]);
    }
    int[] wrong = {-1, 8, MIN, MAX};
    for (int what : wrong) {
      c.due("count " + what, x.count(what), -1);
      c.due("count " + what + " of none", new YouAreOnMute().count(what), -1);
    }
    x.mutes(2);
    c.due("not muted any more", x.count(7), 6);
    x.goes(4);
    c.due("there again", x.count(7), 15);
  }

  private static void countsOfNoneAndAll() {
    c.sentence("count (no SQUARES, all six)");
    for (int what = 0; what <= 7; what++) {
      c.due("count " + what + " of none", new YouAreOnMute().count(what), 0);
    }
    YouAreOnMute x = Checks.told("s399;".repeat(6) + "h0;h1;h2;h3;h4;h5;");
    int[] due = {6, 0, 0, 63, 6, 63, 54, 54};
    for (int what = 0; what <= 7; what++) {
      c.due("count " + what + " of six", x.count(what), due[what]);
    }
    Checks.tell(x, "m0;m1;m2;m3;m4;m5;");
    c.due("all muted", x.count(2), 63);
    c.due("nobody can speak", x.count(5), 0);
    c.due("no noise", x.count(7), 0);
    Checks.tell(x, "o0;o1;o2;o3;o4;o5;");
    c.due("nobody there", x.count(3), 0);
    c.due("no hands", x.count(4), 0);
    c.due("all lags still", x.count(6), 54);
  }

  private static void calls512() {
    c.sentence("An object is used for at most 512 calls after it has been made");
    String text = "s003;s140;s319;s209;s599;";
    int ended = Checks.told(text).meetings(20, 7, 0);
    YouAreOnMute x = new YouAreOnMute();
    Checks.write(x, 0, text);
    c.due("five come", x.house(0), 5);
    x.image();
    // 1, 25 and 2 calls until here; 160 times 3 calls are 480 more.
    for (int i = 0; i < 160; i++) {
      x.restore();
      c.due("a second time no more, " + i, x.house(0), -2005);
      c.due("the same meetings, " + i, x.meetings(20, 7, 0), ended);
    }
    x.mutes(0);
    x.hands(1);
    x.turns(0, 1);
    c.due("call 512: 1 and 1 seconds to be told, and 1", x.count(1), 3);
  }
}
