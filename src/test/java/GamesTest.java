/** Promises 19 to 25: hands and games. */
public final class GamesTest {
  private static final Checks c = new Checks("GamesTest");

  public static void main(String[] args) {
    next();
    waiting();
    leastOfAllOrders();
    two();
    chat();
    truly();
    trulyRefusals();
    spirits();
    bears();
    c.end();
  }

  private static void next() {
    YouAreOnMute x = Checks.told("s000;s000;s000;h2;h0;h1;");
    c.due("0", x.next(0), 2);
    c.due("1", x.next(1), 0);
    c.due("2", x.next(2), 1);
    c.due("3", x.next(3), -4);
    c.due("far", x.next(Integer.MAX_VALUE), -4);
    c.due("-1", x.next(-1), -1);
    c.due("least", x.next(Integer.MIN_VALUE), -1);
    x.goes(2);
    c.due("the longest there", x.next(0), 0);
    x.turns(0, 1);
    c.due("behind a turn", x.next(0), 1);
    c.due("no more", x.next(1), -4);
  }

  private static void waiting() {
    YouAreOnMute x = Checks.told("s020;s000;s110;s400;h0;h1;h2;");
    // They take 25, 5 and 16.
    c.due("by hands: 25 and 30", x.waiting(0), 55);
    c.due("least: 5 and 21", x.waiting(1), 26);
    c.due("first", x.waiting(2), 1);
    c.due("the order of hands stays", x.next(0), 0);
    x.hands(3);
    c.due("by hands, the frozen one behind: 46 more", x.waiting(0), 101);
    x.goes(1);
    c.due("by hands of those there: 25 and 41", x.waiting(0), 66);
    c.due("least: 16 and 41", x.waiting(1), 57);
    c.due("first of those there", x.waiting(2), 2);
    YouAreOnMute none = Checks.told("s000;");
    c.due("none by hands", none.waiting(0), 0);
    c.due("none, least", none.waiting(1), 0);
    c.due("none, first", none.waiting(2), -4);
    none.hands(0);
    c.due("one by hands", none.waiting(0), 0);
    c.due("one, first", none.waiting(2), 0);
    c.due("what -1", x.waiting(-1), -1);
    c.due("what 3", x.waiting(3), -1);
    c.due("of the same, the one whose hand is up longer",
        Checks.told("s009;s000;s000;h0;h2;h1;").waiting(2), 2);
  }

  private static int best;

  private static void leastOfAllOrders() {
    java.util.Random random = new java.util.Random(7);
    for (int round = 0; round < 200; round++) {
      YouAreOnMute x = new YouAreOnMute();
      int n = 1 + random.nextInt(6);
      int[] takes = new int[n];
      for (int q = 0; q < n; q++) {
        Checks.come(x, random.nextInt(8), random.nextInt(10), random.nextInt(10));
        takes[q] = x.square(q, 7) + 10 * x.square(q, 1);
        x.hands(q);
      }
      best = Integer.MAX_VALUE;
      order(takes, 0, 0, 0);
      c.due("least of all orders, round " + round, x.waiting(1), best);
    }
  }

  private static void order(int[] takes, int done, int gone, int together) {
    if (done == (1 << takes.length) - 1) {
      best = Math.min(best, together);
    }
    for (int q = 0; q < takes.length; q++) {
      if ((done >> q & 1) == 0) {
        order(takes, done | 1 << q, gone + takes[q], together + gone);
      }
    }
  }

  private static void two() {
    YouAreOnMute x = Checks.told("s004;s009;s400;o1;");
    c.due("0 and 5", x.two(1, 0), 5);
    c.due("0 and 10", x.two(0, 1), 10);
    c.due("0 and 1", x.two(1, 2), 1);
    c.due("one twice", x.two(0, 0), -1);
    c.due("a -1", x.two(-1, 0), -1);
    c.due("a 3", x.two(3, 0), -1);
    c.due("b -1", x.two(0, -1), -1);
    c.due("b 3", x.two(0, 3), -1);
  }

  private static void chat() {
    YouAreOnMute x = Checks.told("s000;s100;");
    // 12 tenths and one clash.
    c.due("20 against 22", x.chat(2), 1);
    c.due("30 against 22", x.chat(3), 0);
    c.due("10 against 10", Checks.told("s150;").chat(1), 0);
    c.due("10 against 11", Checks.told("s160;").chat(1), 1);
    // 43 tenths and 4 clashes.
    c.due("80 against 83", Checks.told("s000;s209;").chat(8), 1);
    c.due("90 against 83", Checks.told("s000;s209;").chat(9), 0);
    // 58 tenths and 5 clashes.
    c.due("100 against 108", Checks.told("s000;s000;s190;").chat(10), 1);
    c.due("110 against 108", Checks.told("s000;s000;s190;").chat(11), 0);
    c.due("a pause that never ends", Checks.told("s000;s000;").chat(99), 1);
    c.due("nobody there", new YouAreOnMute().chat(99), 1);
    c.due("c 0", x.chat(0), -1);
    c.due("c 100", x.chat(100), -1);
    c.due("c 99", x.chat(99), 0);
  }

  private static void truly() {
    // From 8 to 8 + 10 + 3; from 9 to 9 + 28; from 99 to 198.
    YouAreOnMute x = Checks.told("s003;s140;s400;");
    Checks.fill(x, 0, Checks.SHORTS, 8, 9, 99);
    c.due("the soonest", x.truly(0), 7);
    Checks.fill(x, 0, Checks.SHORTS, 7, 8, 98);
    c.due("too soon", x.truly(0), 0);
    Checks.fill(x, 0, Checks.SHORTS, 21, 37, 198);
    c.due("the latest", x.truly(0), 7);
    Checks.fill(x, 0, Checks.SHORTS, 22, 38, 199);
    c.due("too late", x.truly(0), 0);
    Checks.fill(x, 0, Checks.SHORTS, -32768, 37, -32768);
    c.due("some skipped", x.truly(0), 2);
    Checks.fill(x, 0, Checks.INTS, -32768, Integer.MIN_VALUE, 120);
    c.due("ints", x.truly(0), 4);
    Checks.fill(x, 0, Checks.BYTES, 10, -128, 127);
    c.due("bytes", x.truly(0), 5);
    Checks.fill(x, 0, Checks.BYTES, 10);
    c.due("fewer", x.truly(0), 1);
    x.row(0, Checks.BYTES, 0);
    c.due("none", x.truly(0), 0);
    x.goes(0);
    x.mutes(0);
    Checks.fill(x, 0, Checks.BYTES, 10);
    c.due("by the number told alone", x.truly(0), 1);
  }

  private static void trulyRefusals() {
    YouAreOnMute x = Checks.told("s003;");
    c.due("shelf -1", x.truly(-1), -1);
    c.due("shelf 8", x.truly(8), -1);
    c.due("nothing held", x.truly(0), -11);
    x.keep(0, 1, 0, 0);
    c.due("a person", x.truly(0), -12);
    Checks.fill(x, 0, Checks.BYTES, 8, 8);
    c.due("more than squares", x.truly(0), -13);
    Checks.fill(x, 0, Checks.BYTES, 8, -128);
    c.due("more than squares, though skipped", x.truly(0), -13);
  }

  private static void spirits() {
    YouAreOnMute x = Checks.told("s000;s000;s000;");
    c.due("together", x.spirits(0), 30);
    c.due("of several the least", x.spirits(1), 0);
    x.laughs(1);
    c.due("together behind a laugh", x.spirits(0), 35);
    c.due("the lowest", x.spirits(1), 1);
    x.mutes(2);
    x.laughs(2);
    c.due("another one", x.spirits(1), 2);
    x.goes(2);
    c.due("only one there", x.spirits(1), 1);
    c.due("all together, there or not", x.spirits(0), 32);
    x.goes(0);
    x.goes(1);
    c.due("nobody there", x.spirits(1), -4);
    c.due("no squares", new YouAreOnMute().spirits(0), 0);
    c.due("what -1", x.spirits(-1), -1);
    c.due("what 2", x.spirits(2), -1);
  }

  private static void bears() {
    c.due("nobody: it never ends as it is", new YouAreOnMute().bears(0, 0), 0);
    c.due("nobody, one more", new YouAreOnMute().bears(4, 1), 9);
    YouAreOnMute x = Checks.told("s000;");
    c.due("one like him", x.bears(0, 0), 1);
    c.due("one like him, tenths", x.bears(0, 1), -4);
    c.due("7 within 2 of lag", x.bears(2, 0), 1);
    YouAreOnMute chair = Checks.told("s600;");
    c.due("the chair always speaks", chair.bears(9, 0), -4);
    c.due("with one more", chair.bears(9, 1), 0);
    YouAreOnMute eager = Checks.told("s202;");
    // 4 of the eager one; two more at 5 clash with each other only if they start.
    c.due("the eager one goes first", eager.bears(0, 0), -4);
    YouAreOnMute late = Checks.told("s190;");
    // 14 and two at 5, 7, .. 13: these clash; at 15 he speaks.
    c.due("two more clash until he speaks", late.bears(0, 0), -4);
    c.due("one more speaks", late.bears(0, 1), 5);
    YouAreOnMute six = Checks.told("s190;s400;s400;s400;s400;s400;");
    c.due("more than there is room for", six.bears(0, 0), -4);
    c.due("two more with lag never part from him", six.bears(1, 0), 2);
    c.due("one more with lag", six.bears(1, 1), 6);
    // The shy one at 46, others rising by 2 to 50 and more, the lag of all 9.
    c.due("a shy one with lag", Checks.told("s599;").bears(0, 0), 2);
    c.due("nothing changes", six.count(0), 6);
    c.due("g -1", x.bears(-1, 0), -1);
    c.due("g 10", x.bears(10, 0), -1);
    c.due("what -1", x.bears(0, -1), -1);
    c.due("what 2", x.bears(0, 2), -1);
  }
}
