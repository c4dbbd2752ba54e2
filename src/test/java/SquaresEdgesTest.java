/** The boundary cases of the squares: terms I, promises 1 and 3 to 7, and kinds. */
public final class SquaresEdgesTest {
  private static final Checks c = new Checks("SquaresEdgesTest");
  private static final int MIN = Integer.MIN_VALUE;
  private static final int MAX = Integer.MAX_VALUE;

  public static void main(String[] args) {
    noSquares();
    sixSquares();
    numbersOfSquares();
    figures();
    lags();
    atFirst();
    kinds();
    waits();
    yields();
    notices();
    noise();
    canSpeak();
    whatOfSquare();
    handOfSquare();
    comesStays();
    comesRefused();
    mutes();
    goes();
    hands();
    c.end();
  }

  /** What each call that takes a square answers of square q, in one row; none changes anything for -1. */
  private static int[] callsOf(YouAreOnMute x, int q) {
    return new int[] {x.square(q, 0), x.rule(q, 0, 0), x.bestRule(q), x.told(q, 0), x.quickest(q),
        x.again(q, 1, 0), x.mutes(q), x.goes(q), x.goes(q), x.mutes(q), x.hands(q), x.laughs(q),
        x.turns(q, 1)};
  }

  private static void allRefused(YouAreOnMute x, int q) {
    int[] answers = callsOf(x, q);
    for (int i = 0; i < answers.length; i++) {
      c.due("call " + i + " of square " + q, answers[i], -1);
    }
    int other = q == 0 ? 1 : 0;
    c.due("two of square " + q, x.two(q, other), -1);
    c.due("two, second square " + q, x.two(other, q), -1);
  }

  private static void noSquares() {
    c.sentence("YouAreOnMute(): No SQUARES.");
    YouAreOnMute x = new YouAreOnMute();
    allRefused(x, 0);
    allRefused(x, -1);
    for (int what = 0; what <= 7; what++) {
      c.due("count " + what, x.count(what), 0);
    }
    for (int what = 0; what <= 10; what++) {
      c.due("square 0, what " + what, x.square(0, what), -1);
    }
    c.due("the first comes into square 0", Checks.come(x, Checks.PERSON, 0, 0), 0);
    c.due("one", x.count(0), 1);
    allRefused(x, 1);
  }

  private static void sixSquares() {
    c.sentence("SQUARES 0 .. 5 as they come (6 at most)");
    YouAreOnMute x = new YouAreOnMute();
    for (int q = 0; q < 6; q++) {
      c.due("comes into", Checks.come(x, q, q, 9 - q), q);
      c.due("so many", x.count(0), q + 1);
    }
    for (int q = 0; q < 6; q++) {
      c.due("kind of " + q, x.square(q, 0), q);
      c.due("figure of " + q, x.square(q, 1), q);
      c.due("lag of " + q, x.square(q, 2), 9 - q);
    }
    c.due("a seventh", Checks.come(x, 0, 0, 0), -2);
    c.due("still six", x.count(0), 6);
    c.due("the last stays as he came", x.square(5, 0) * 100 + x.square(5, 1) * 10 + x.square(5, 2), 554);
    c.due("all there", x.count(3), 63);
    c.due("a seventh who told the same", Checks.come(x, 5, 5, 4), -2);
    x.goes(5);
    c.due("one who is gone keeps his square", Checks.come(x, 0, 0, 0), -2);
  }

  private static void numbersOfSquares() {
    c.sentence("-1 no such one, a number out of its range (a SQUARE)");
    for (int n = 1; n <= 6; n++) {
      YouAreOnMute x = Checks.told("s000;".repeat(n));
      int[] answers = callsOf(x, n - 1);
      for (int i = 0; i < answers.length; i++) {
        boolean none = n == 1 && (i == 3 || i == 4);
        c.due("call " + i + " of the last of " + n + " is no -1", answers[i] == -1 ? 1 : 0, 0);
        c.due("call " + i + " of the last of " + n + " is -4", answers[i] == -4 ? 1 : 0, none ? 1 : 0);
      }
      allRefused(x, n);
      allRefused(x, -1);
    }
    YouAreOnMute x = Checks.told("s000;".repeat(6));
    allRefused(x, MIN);
    allRefused(x, MAX);
    allRefused(x, 8);
    c.due("nothing changed", x.count(1) + x.count(2) + x.count(4), 0);
    c.due("two: 0 and 5", x.two(0, 5), 1);
    c.due("two: 5 and 0", x.two(5, 0), 1);
  }

  private static void figures() {
    c.sentence("each with a FIGURE (0 .. 9)");
    YouAreOnMute x = new YouAreOnMute();
    c.due("0", x.keep(0, 1, Checks.COOK, 0), 0);
    c.due("comes", x.comes(0, 0), 0);
    c.due("9", x.keep(0, 1, Checks.COOK, 9), 0);
    c.due("comes", x.comes(0, 0), 1);
    c.due("figure 0", x.square(0, 1), 0);
    c.due("figure 9", x.square(1, 1), 9);
    int[] wrong = {-1, 10, MIN, MAX};
    for (int figure : wrong) {
      c.due("figure " + figure, x.keep(0, 1, Checks.COOK, figure), -1);
    }
    c.due("the shelf has 9 still", x.toss(0), 9);
  }

  private static void lags() {
    c.sentence("a LAG (0 .. 9 tenths of a second)");
    YouAreOnMute x = new YouAreOnMute();
    c.due("0", Checks.come(x, Checks.PERSON, 0, 0), 0);
    c.due("9", Checks.come(x, Checks.PERSON, 0, 9), 1);
    c.due("lag 0", x.square(0, 2), 0);
    c.due("lag 9", x.square(1, 2), 9);
    int[] wrong = {-1, 10, MIN, MAX};
    for (int lag : wrong) {
      c.due("lag " + lag, Checks.come(x, Checks.PERSON, 0, lag), -1);
    }
    c.due("nobody came by them", x.count(0), 2);
    c.due("all lags", x.count(6), 9);
  }

  private static void atFirst() {
    c.sentence("MUTED or not (not at first)");
    YouAreOnMute x = Checks.told("s000;s109;s290;s399;s400;s599;");
    c.due("none of six", x.count(2), 0);
    c.sentence("THERE or not (THERE at first)");
    c.due("six of six", x.count(3), 63);
    c.sentence("a HAND up or not (not at first; by the order in which they went up)");
    c.due("none of six", x.count(4), 0);
    c.due("nobody is next", x.next(0), -4);
    for (int q = 0; q < 6; q++) {
      c.due("hand of " + q, x.square(q, 5), 0);
    }
    c.sentence("SPIRIT (0 .. 20; 10 at first)");
    for (int q = 0; q < 6; q++) {
      c.due("spirit of " + q, x.square(q, 6), 10);
    }
    c.due("together", x.spirits(0), 60);
    c.sentence("CLOCK (0 .. 9999 seconds; 0 at first)");
    c.due("clock", x.count(1), 0);
    c.due("of a new object", new YouAreOnMute().count(1), 0);
    c.due("its image", new YouAreOnMute().image(), 0);
    c.sentence("who comes behind others' doings is as at first, too");
    x = Checks.told("s000;l0;h0;m0;o0;s000;");
    c.due("muted", x.square(1, 3), 0);
    c.due("there", x.square(1, 4), 1);
    c.due("hand", x.square(1, 5), 0);
    c.due("spirit", x.square(1, 6), 10);
  }

  private static void kinds() {
    c.sentence("KINDS: 0 PERSON .. 7 GHOST");
    YouAreOnMute x = new YouAreOnMute();
    int[] costs = {4, 6, 2, 11, 2, 12, 4, 3};
    for (int k = 0; k <= 7; k++) {
      c.due("kind " + k, x.keep(k, 1, k, 2), 0);
      c.due("cost of kind " + k, x.cost(k), costs[k]);
    }
    int[] wrong = {-1, 8, 9, MIN, MAX};
    for (int k : wrong) {
      c.due("kind " + k, x.keep(0, 1, k, 2), -1);
    }
    c.due("the shelf has a person still", x.cost(0), 4);
    c.due("a ghost comes", x.comes(7, 0), 0);
    c.due("as a ghost", x.square(0, 0), 7);
    c.due("a person comes", x.comes(0, 0), 1);
    c.due("as a person", x.square(1, 0), 0);
  }

  /** Of each kind with figures 0, 9 and lags 0, 9: what is told of it. */
  private static void ofKinds(int what, int[][] due) {
    int[][] figureAndLag = {{0, 0}, {0, 9}, {9, 0}, {9, 9}};
    for (int k = 0; k <= 7; k++) {
      YouAreOnMute x = new YouAreOnMute();
      for (int i = 0; i < 4; i++) {
        Checks.come(x, k, figureAndLag[i][0], figureAndLag[i][1]);
        c.due("kind " + k + " figure " + figureAndLag[i][0] + " lag " + figureAndLag[i][1],
            x.square(i, what), due[k][i]);
      }
    }
  }

  private static void waits() {
    c.sentence("WAITS (tenths, LAG told): PERSON 5 and LAG; POLITE FIGURE more; EAGER 3 less; FROZEN 99; "
        + "SHY twice a POLITE's; CHAIR 2 less than an EAGER's; others as what they are under");
    ofKinds(7, new int[][] {{5, 14, 5, 14}, {5, 14, 14, 23}, {2, 11, 2, 11}, {5, 14, 5, 14},
        {99, 99, 99, 99}, {10, 28, 28, 46}, {0, 9, 0, 9}, {99, 99, 99, 99}});
  }

  private static void yields() {
    c.sentence("YIELDS (tenths): PERSON 2; POLITE 3 more; EAGER 0; SHY twice a POLITE's; CHAIR as EAGER; "
        + "others as what they are under");
    int[] due = {2, 5, 0, 2, 2, 10, 0, 2};
    int[][] all = new int[8][];
    for (int k = 0; k <= 7; k++) {
      all[k] = new int[] {due[k], due[k], due[k], due[k]};
    }
    ofKinds(8, all);
  }

  private static void notices() {
    c.sentence("NOTICES (tenths): PERSON 10 and FIGURE; POLITE twice a PERSON's; EAGER 4 less; FROZEN 99; "
        + "CHAIR half of an EAGER's, cut; others as what they are under");
    ofKinds(9, new int[][] {{10, 10, 19, 19}, {20, 20, 38, 38}, {6, 6, 15, 15}, {10, 10, 19, 19},
        {99, 99, 99, 99}, {20, 20, 38, 38}, {3, 3, 7, 7}, {99, 99, 99, 99}});
    int[] halves = {3, 3, 4, 4, 5, 5, 6, 6, 7, 7};
    for (int figure = 0; figure <= 9; figure++) {
      YouAreOnMute x = new YouAreOnMute();
      Checks.come(x, Checks.CHAIR, figure, 0);
      c.due("half of an eager one's with figure " + figure, x.square(0, 9), halves[figure]);
    }
  }

  private static void noise() {
    c.sentence("NOISE: PERSON 0; EAGER 1; COOK FIGURE; SHY 0; others as what they are under");
    ofKinds(10, new int[][] {{0, 0, 0, 0}, {0, 0, 0, 0}, {1, 1, 1, 1}, {0, 0, 9, 9}, {0, 0, 0, 0},
        {0, 0, 0, 0}, {1, 1, 1, 1}, {0, 0, 0, 0}});
  }

  private static void canSpeak() {
    c.sentence("One CAN SPEAK, if THERE, not MUTED and WAITS is below 99");
    YouAreOnMute x = Checks.told("s599;s400;s790;s699;s000;s000;m4;o5;");
    c.due("46 and 9 tenths are below, 99 are not; muted ones and gone ones can't", x.count(5), 1 + 8);
    x.mutes(4);
    c.due("not muted any more", x.count(5), 1 + 8 + 16);
    x.goes(5);
    c.due("there again", x.count(5), 1 + 8 + 16 + 32);
    x.mutes(5);
    x.goes(5);
    c.due("muted and gone", x.count(5), 1 + 8 + 16);
    for (int q = 0; q < 5; q++) {
      x.mutes(q);
    }
    c.due("all muted", x.count(5), 0);
    c.due("all six can", Checks.told("s000;s100;s200;s300;s500;s600;").count(5), 63);
  }

  private static void whatOfSquare() {
    c.sentence("square: KIND (what 0) .. NOISE (10). -1.");
    YouAreOnMute x = Checks.told("s203;h0;m0;");
    int[] due = {2, 0, 3, 1, 1, 1, 10, 5, 0, 6, 1};
    for (int what = 0; what <= 10; what++) {
      c.due("what " + what, x.square(0, what), due[what]);
    }
    int[] wrong = {-1, 11, MIN, MAX};
    for (int what : wrong) {
      c.due("what " + what, x.square(0, what), -1);
      c.due("what " + what + ", no such one", x.square(1, what), -1);
    }
  }

  private static void handOfSquare() {
    c.sentence("HAND (5: how many went up no later; 0 down)");
    YouAreOnMute x = Checks.told("s000;".repeat(6) + "h5;h3;h1;h0;h2;h4;");
    int[] ranks = {4, 3, 5, 2, 6, 1};
    for (int q = 0; q < 6; q++) {
      c.due("all six up, hand of " + q, x.square(q, 5), ranks[q]);
    }
    x.hands(5);
    int[] behind = {3, 2, 4, 1, 5, 0};
    for (int q = 0; q < 6; q++) {
      c.due("the first one down, hand of " + q, x.square(q, 5), behind[q]);
    }
    x.hands(4);
    c.due("the last one down", x.square(4, 5), 0);
    c.due("the one ahead of him as before", x.square(2, 5), 4);
    x.hands(5);
    c.due("up again is up last", x.square(5, 5), 5);
  }

  private static void comesStays() {
    c.sentence("what is taken from a SHELF, stays there (said once more)");
    YouAreOnMute x = new YouAreOnMute();
    x.keep(0, 1, Checks.SHY, 3);
    c.due("comes", x.comes(0, 0), 0);
    c.due("is on the shelf still", x.cost(0), 14);
    c.due("comes again", x.comes(0, 9), 1);
    c.due("with another lag", x.square(1, 2), 9);
    c.due("the first one's lag stays", x.square(0, 2), 0);
    x.keep(0, 0, 0, 0);
    c.due("he is no more on the shelf, but in his square", x.square(0, 0), 5);
    c.due("waits as he did", x.square(0, 7), 16);
  }

  private static void comesRefused() {
    c.sentence("comes: -1, -11, -12 (a ROW), -2");
    int[] shelves = {-1, 8, MIN, MAX};
    int[] lags = {-1, 10, MIN, MAX};
    for (int n = 0; n <= 6; n += 6) {
      YouAreOnMute x = Checks.told("s000;".repeat(n));
      x.keep(0, 0, 0, 0);
      x.keep(1, 1, Checks.COOK, 2);
      x.row(2, Checks.BYTES, 0);
      x.row(3, Checks.INTS, 100);
      String before = Checks.all(x);
      for (int d : shelves) {
        c.due("shelf " + d + " with " + n, x.comes(d, 0), -1);
        c.due("shelf " + d + ", lag 10, with " + n, x.comes(d, 10), -1);
      }
      for (int lag : lags) {
        for (int d = 0; d <= 3; d++) {
          c.due("lag " + lag + " ahead of shelf " + d + " with " + n, x.comes(d, lag), -1);
        }
      }
      c.due("nothing, ahead of no room, with " + n, x.comes(0, 0), -11);
      c.due("a row, ahead of no room, with " + n, x.comes(2, 0), -12);
      c.due("a hundred, ahead of no room, with " + n, x.comes(3, 9), -12);
      if (n == 6) {
        c.due("no room", x.comes(1, 0), -2);
      }
      c.same("all", Checks.all(x), before);
      c.due("the cook with " + n, x.comes(1, 9), n == 6 ? -2 : n);
    }
  }

  private static void mutes() {
    c.sentence("MUTED, or not any more: 1, 0. -1.");
    YouAreOnMute x = Checks.told("s000;s100;s200;s300;s400;s700;");
    for (int q = 0; q < 6; q++) {
      c.due("muted " + q, x.mutes(q), 1);
      c.due("bits", x.count(2), (2 << q) - 1);
    }
    for (int q = 0; q < 6; q++) {
      c.due("not any more " + q, x.mutes(q), 0);
      c.due("bits", x.count(2), 63 - (2 << q) + 1);
    }
    x.hands(1);
    x.goes(2);
    x.mutes(1);
    c.due("a muted one's hand stays up", x.square(1, 5), 1);
    c.due("one who is gone is muted, too", x.mutes(2), 1);
    c.due("and stays gone", x.square(2, 4), 0);
  }

  private static void goes() {
    c.sentence("Not THERE (HAND down), or THERE again: 0, 1. -1.");
    YouAreOnMute x = Checks.told("s000;s000;s000;h2;h0;h1;m0;");
    x.laughs(0);
    c.due("gone", x.goes(0), 0);
    c.due("his hand is down", x.square(0, 5), 0);
    c.due("two hands", x.count(4), 2);
    c.due("the one ahead of him", x.square(2, 5), 1);
    c.due("the one behind him", x.square(1, 5), 2);
    c.due("muted still", x.square(0, 3), 1);
    c.due("his spirit", x.square(0, 6), 7);
    c.due("there again", x.goes(0), 1);
    c.due("his hand stays down", x.square(0, 5), 0);
    c.due("two hands still", x.count(4), 2);
    c.due("muted still, there again", x.square(0, 3), 1);
    c.due("gone with the hand down already", x.goes(0), 0);
    c.due("two hands as before", x.count(4), 2);
    YouAreOnMute all = Checks.told("s000;".repeat(6) + "h0;h1;h2;h3;h4;h5;o0;o1;o2;o3;o4;o5;");
    c.due("nobody there", all.count(3), 0);
    c.due("no hand", all.count(4), 0);
  }

  private static void hands() {
    c.sentence("A HAND up, or down: how many are up. -1, -3 not THERE.");
    YouAreOnMute x = Checks.told("s000;s400;s000;s700;s500;s000;m5;");
    for (int q = 0; q < 6; q++) {
      c.due("up: " + q, x.hands(q), q + 1);
    }
    for (int q = 0; q < 6; q++) {
      c.due("down: " + q, x.hands(q), 5 - q);
    }
    x.hands(3);
    x.goes(0);
    c.due("not there", x.hands(0), -3);
    c.due("one is up as before", x.count(4), 1);
    x.goes(0);
    c.due("there again", x.hands(0), 2);
  }
}
