import java.util.function.ToIntFunction;

/** Each refused call, in the order in which its refusals are told: nothing changes by it. */
public final class RefusalsEdgesTest {
  private static final Checks c = new Checks("RefusalsEdgesTest");
  private static final int MIN = Integer.MIN_VALUE;
  private static final int MAX = Integer.MAX_VALUE;
  private static final int[] NO_SHELVES = {-1, 8, MIN, MAX};
  private static final int[] NO_SQUARES = {-1, 6, MIN, MAX};
  private static final int[] NO_DIGITS = {-1, 10, MIN, MAX};
  private static final int[] NO_SECONDS = {0, 100, -1, MIN, MAX};
  private static final int[] NO_WHAT_OF_TWO = {-1, 2, MIN, MAX};
  private static final int[] NO_WHAT_OF_THREE = {-1, 3, MIN, MAX};

  private static final int NOTHING = 0;
  private static final int ONE = 1;
  private static final int BYTES = 2;
  private static final int SHORTS = 3;
  private static final int INTS = 4;
  private static final int EMPTY = 5;
  private static final int TEXT = 6;
  private static final int FIGURELESS = 7;
  private static final int GONE = 3;

  private static final String WHOLE = told(late());

  public static void main(String[] args) {
    texts();
    squares();
    pauses();
    games();
    records();
    image();
    shelves();
    c.end();
  }

  /** Six squares, one of them gone, the clock near its end, an image of what was before, shelves of all sorts. */
  private static YouAreOnMute late() {
    YouAreOnMute x = Checks.told("s003;s140;s359;s209;s400;s551;h1;h5;h0;m2;l1;o3;");
    x.image();
    Checks.tell(x, "h4;m1;l5;h2;");
    for (int i = 0; i < 100; i++) {
      x.turns(0, 99);
    }
    x.keep(NOTHING, 0, 0, 0);
    x.keep(ONE, 1, Checks.COOK, 7);
    Checks.fill(x, BYTES, Checks.BYTES, 9, 4, 6);
    Checks.fill(x, SHORTS, Checks.SHORTS, 6, 0);
    Checks.fill(x, INTS, Checks.INTS, 9, 10);
    x.row(EMPTY, Checks.BYTES, 0);
    Checks.write(x, TEXT, "m0;t099;t001;");
    x.keep(FIGURELESS, 1, Checks.PERSON, 0);
    return x;
  }

  /** All that is told of the object, of its shelves and, last, of its image. */
  private static String told(YouAreOnMute x) {
    StringBuilder s = new StringBuilder(Checks.all(x));
    for (int d = 0; d <= 7; d++) {
      s.append("| ").append(x.cost(d)).append(' ').append(x.toss(d)).append(' ');
      boolean more = true;
      for (int i = 0; more; i++) {
        try {
          s.append(x.element(d, i)).append(' ');
        } catch (IllegalStateException end) {
          more = false;
        }
      }
    }
    s.append("| ").append(x.restore()).append(' ').append(Checks.all(x));
    return s.toString();
  }

  private static void refused(String what, int due, ToIntFunction<YouAreOnMute> call) {
    YouAreOnMute x = late();
    c.due(what, call.applyAsInt(x), due);
    String after = told(x);
    c.due("all as it was behind " + what + ": " + after, after.equals(WHOLE) ? 1 : 0, 1);
  }

  private static void texts() {
    c.sentence("house: the FAULT. -1, -11, -12 (no ROW of bytes): nothing changes");
    for (int d : NO_SHELVES) {
      refused("house " + d, -1, x -> x.house(d));
    }
    refused("house of nothing", -11, x -> x.house(NOTHING));
    refused("house of one", -12, x -> x.house(ONE));
    refused("house of shorts", -12, x -> x.house(SHORTS));
    refused("house of ints", -12, x -> x.house(INTS));
    refused("house of no bytes", -1000, x -> x.house(EMPTY));
    refused("house of other bytes", -1000, x -> x.house(BYTES));
    // 9900 on the clock, 3 or less to be told, then 99.
    refused("house above 9999", -2003, x -> x.house(TEXT));
  }

  private static void squares() {
    c.sentence("square, comes, mutes, goes, hands, turns, laughs: REFUSALS (answers; nothing changes)");
    for (int q : NO_SQUARES) {
      refused("square " + q, -1, x -> x.square(q, 0));
      refused("mutes " + q, -1, x -> x.mutes(q));
      refused("goes " + q, -1, x -> x.goes(q));
      refused("hands " + q, -1, x -> x.hands(q));
      refused("turns " + q, -1, x -> x.turns(q, 1));
      refused("laughs " + q, -1, x -> x.laughs(q));
    }
    int[] whats = {-1, 11, MIN, MAX};
    for (int what : whats) {
      refused("square 0, " + what, -1, x -> x.square(0, what));
    }
    for (int d : NO_SHELVES) {
      refused("comes " + d, -1, x -> x.comes(d, 0));
    }
    for (int lag : NO_DIGITS) {
      refused("comes with lag " + lag, -1, x -> x.comes(ONE, lag));
      refused("comes of nothing with lag " + lag, -1, x -> x.comes(NOTHING, lag));
    }
    refused("comes of nothing", -11, x -> x.comes(NOTHING, 0));
    refused("comes of a row", -12, x -> x.comes(EMPTY, 0));
    refused("a seventh comes", -2, x -> x.comes(ONE, 0));
    refused("hands of one not there", -3, x -> x.hands(GONE));
    refused("laughs of one not there", -3, x -> x.laughs(GONE));
    refused("turns of one not there", -3, x -> x.turns(GONE, 1));
    for (int seconds : NO_SECONDS) {
      refused("turns of " + seconds + " seconds", -1, x -> x.turns(0, seconds));
      refused("turns of one not there of " + seconds + " seconds", -1, x -> x.turns(GONE, seconds));
    }
    // The muted one with the hand up needs some seconds to be told, beside his own.
    refused("turns above 9999", -3, x -> x.turns(2, 99));
  }

  private static void pauses() {
    c.sentence("pause, rule, bestRule, drowns, told, quickest, object, again: -1, -4 (nothing changes)");
    for (int what : NO_WHAT_OF_THREE) {
      refused("pause " + what, -1, x -> x.pause(what));
    }
    for (int q : NO_SQUARES) {
      refused("rule of " + q, -1, x -> x.rule(q, 0, 0));
      refused("best rule of " + q, -1, x -> x.bestRule(q));
      refused("told " + q, -1, x -> x.told(q, 0));
      refused("quickest " + q, -1, x -> x.quickest(q));
      refused("again " + q, -1, x -> x.again(q, 1, 0));
    }
    for (int rule : NO_WHAT_OF_THREE) {
      refused("rule " + rule, -1, x -> x.rule(0, rule, 0));
    }
    for (int what : NO_WHAT_OF_TWO) {
      refused("rule, what " + what, -1, x -> x.rule(0, 0, what));
      refused("told, what " + what, -1, x -> x.told(0, what));
    }
    for (int number : NO_DIGITS) {
      refused("drowns " + number, -1, x -> x.drowns(number));
      refused("again with d " + number, -1, x -> x.again(0, 1, number));
    }
    refused("drowns 0", -4, x -> x.drowns(0));
    int[] tenths = {-1, 1000, MIN, MAX};
    for (int t : tenths) {
      refused("object " + t, -1, x -> x.object(t));
    }
    for (int seconds : NO_SECONDS) {
      refused("again of " + seconds + " seconds", -1, x -> x.again(0, seconds, 0));
    }
  }

  private static void games() {
    c.sentence("next, waiting, two, chat, truly, spirits, bears: -1, -4, -11, -12, -13 (nothing changes)");
    refused("next -1", -1, x -> x.next(-1));
    refused("next, the least", -1, x -> x.next(MIN));
    refused("next behind the last", -4, x -> x.next(6));
    refused("next, far", -4, x -> x.next(MAX));
    for (int what : NO_WHAT_OF_THREE) {
      refused("waiting " + what, -1, x -> x.waiting(what));
    }
    for (int q : NO_SQUARES) {
      refused("two, first " + q, -1, x -> x.two(q, 0));
      refused("two, second " + q, -1, x -> x.two(0, q));
      refused("two, twice " + q, -1, x -> x.two(q, q));
    }
    refused("two, 5 twice", -1, x -> x.two(5, 5));
    for (int seconds : NO_SECONDS) {
      refused("chat " + seconds, -1, x -> x.chat(seconds));
    }
    for (int d : NO_SHELVES) {
      refused("truly " + d, -1, x -> x.truly(d));
    }
    refused("truly of nothing", -11, x -> x.truly(NOTHING));
    refused("truly of one", -12, x -> x.truly(ONE));
    refused("truly of 13 numbers", -13, x -> x.truly(TEXT));
    for (int what : NO_WHAT_OF_TWO) {
      refused("spirits " + what, -1, x -> x.spirits(what));
      refused("bears, what " + what, -1, x -> x.bears(0, what));
    }
    for (int lag : NO_DIGITS) {
      refused("bears with lag " + lag, -1, x -> x.bears(lag, 0));
    }
  }

  private static void records() {
    c.sentence("cooked, forged, judge, meetings: -1, -11, -12, -13, -4 (nothing changes)");
    for (int d : NO_SHELVES) {
      refused("cooked " + d, -1, x -> x.cooked(d, 0, 0));
      refused("forged " + d, -1, x -> x.forged(d, 0));
      refused("judge " + d, -1, x -> x.judge(d));
    }
    for (int f : NO_DIGITS) {
      for (int d = NOTHING; d <= BYTES; d++) {
        int shelf = d;
        refused("cooked, shelf " + d + ", figure " + f, -1, x -> x.cooked(shelf, f, 0));
        refused("forged, shelf " + d + ", figure " + f, -1, x -> x.forged(shelf, f));
      }
    }
    for (int what : NO_WHAT_OF_TWO) {
      for (int d = NOTHING; d <= BYTES; d++) {
        int shelf = d;
        refused("cooked, shelf " + d + ", what " + what, -1, x -> x.cooked(shelf, 0, what));
      }
      refused("meetings, what " + what, -1, x -> x.meetings(1, 0, what));
    }
    refused("cooked of nothing", -11, x -> x.cooked(NOTHING, 0, 0));
    refused("forged of nothing", -11, x -> x.forged(NOTHING, 0));
    refused("judge of nothing", -11, x -> x.judge(NOTHING));
    refused("cooked of one", -12, x -> x.cooked(ONE, 0, 0));
    refused("forged of one", -12, x -> x.forged(ONE, 0));
    refused("judge of one", -12, x -> x.judge(ONE));
    int[] wrong = {BYTES, SHORTS, INTS, TEXT};
    for (int d : wrong) {
      refused("cooked, record " + d, -13, x -> x.cooked(d, 0, 0));
      refused("forged, record " + d, -13, x -> x.forged(d, 0));
    }
    refused("forged: nothing to find", -4, x -> x.forged(EMPTY, 0));
    refused("judge: nothing to find", -4, x -> x.judge(EMPTY));
    int[] numbers = {0, 21, -1, MIN, MAX};
    for (int n : numbers) {
      refused(n + " meetings", -1, x -> x.meetings(n, 7, 0));
    }
  }

  private static void image() {
    c.sentence("restore: -3 there is none (nothing changes); count: -1 for others");
    YouAreOnMute x = Checks.told("s003;s140;s359;h1;h0;m2;t012;l1;o2;");
    String before = Checks.all(x);
    c.due("no image", x.restore(), -3);
    c.same("all", Checks.all(x), before);
    int[] whats = {-1, 8, MIN, MAX};
    for (int what : whats) {
      refused("count " + what, -1, each -> each.count(what));
    }
  }

  private static int thrown(YouAreOnMute x, int d, int i) {
    try {
      x.element(d, i);
      return 0;
    } catch (IllegalArgumentException e) {
      return 1;
    } catch (IllegalStateException e) {
      return 2;
    }
  }

  private static void shelves() {
    c.sentence("keep, row, put, element, copy, cost, toss: REFUSALS (answers; nothing changes)");
    for (int d : NO_SHELVES) {
      refused("keep " + d, -1, x -> x.keep(d, 0, 0, 0));
      refused("row " + d, -1, x -> x.row(d, 0, -1));
      refused("put " + d, -1, x -> x.put(d, -1, 0));
      refused("element of shelf " + d, 1, x -> thrown(x, d, -1));
      refused("copy from " + d, -1, x -> x.copy(d, 0, NOTHING, 0, 0));
      refused("copy to " + d, -1, x -> x.copy(NOTHING, 0, d, 0, 0));
      refused("cost " + d, -1, x -> x.cost(d));
      refused("toss " + d, -1, x -> x.toss(d));
    }
    for (int shelf = 0; shelf <= 7; shelf++) {
      int d = shelf;
      refused("keep what 2 on " + d, -1, x -> x.keep(d, 2, 0, 0));
      refused("keep kind 8 on " + d, -1, x -> x.keep(d, 1, 8, 0));
      refused("keep figure 10 on " + d, -1, x -> x.keep(d, 1, 0, 10));
      refused("row of sort 3 on " + d, -1, x -> x.row(d, 3, -1));
      refused("row of 101 on " + d, -1, x -> x.row(d, 0, 101));
      refused("row of -1 on " + d, -14, x -> x.row(d, 0, -1));
      boolean row = d >= BYTES && d <= TEXT;
      int refusal = row ? -13 : d == NOTHING ? -11 : -12;
      refused("put -1 on " + d, refusal, x -> x.put(d, -1, 5));
      refused("put 100 on " + d, refusal, x -> x.put(d, 100, 5));
      refused("element 100 on " + d, 2, x -> thrown(x, d, 100));
      refused("copy -1 from " + d, refusal, x -> x.copy(d, 0, d, 0, -1));
      refused("copy 101 from " + d, refusal, x -> x.copy(d, 0, d, 0, 101));
      refused("copy to nothing from " + d, -11, x -> x.copy(d, 0, NOTHING, 0, 0));
      if (row || d == NOTHING) {
        refused("cost on " + d, row ? -12 : -11, x -> x.cost(d));
        refused("toss on " + d, row ? -12 : -11, x -> x.toss(d));
      }
    }
    refused("copy of bytes to shorts", -12, x -> x.copy(BYTES, 0, SHORTS, 0, 1));
    refused("copy of bytes to one", -12, x -> x.copy(BYTES, 0, ONE, 0, 1));
    refused("toss of one without a failure", -15, x -> x.toss(FIGURELESS));
  }
}
