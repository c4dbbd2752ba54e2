/** Promises 30 to 32: the image, and what is told. */
public final class ImageTest {
  private static final Checks c = new Checks("ImageTest");

  public static void main(String[] args) {
    image();
    squaresAreNewAgain();
    shelvesStay();
    counts();
    c.end();
  }

  private static void image() {
    YouAreOnMute x = new YouAreOnMute();
    c.due("none yet", x.restore(), -3);
    c.due("of a new one", x.image(), 0);
    Checks.tell(x, "s003;s140;s319;h1;h0;m2;t012;l1;");
    c.due("clock", x.count(1), 12);
    String first = Checks.all(x);
    c.due("restored to nothing", x.restore(), 0);
    c.due("no squares", x.count(0), 0);
    Checks.tell(x, "s003;s140;s319;h1;h0;m2;t012;l1;");
    c.due("the same again", Checks.all(x).equals(first) ? 1 : 0, 1);
    c.due("the clock is told", x.image(), 12);
    Checks.tell(x, "o0;h1;m1;m2;l2;t199;s700;");
    c.due("much is other", Checks.all(x).equals(first) ? 1 : 0, 0);
    c.due("restored", x.restore(), 12);
    c.due("all as it was", Checks.all(x).equals(first) ? 1 : 0, 1);
    Checks.tell(x, "o1;m0;l2;");
    c.due("restored once more", x.restore(), 12);
    c.due("all as it was once more", Checks.all(x).equals(first) ? 1 : 0, 1);
    c.due("waits as they were", x.square(1, 7), 9);
    c.due("the order of hands", x.next(0), 1);
  }

  private static void squaresAreNewAgain() {
    YouAreOnMute x = new YouAreOnMute();
    x.image();
    Checks.tell(x, "s399;m0;l0;h0;o0;");
    x.restore();
    Checks.tell(x, "s000;");
    c.due("not muted", x.square(0, 3), 0);
    c.due("there", x.square(0, 4), 1);
    c.due("no hand up", x.square(0, 5), 0);
    c.due("spirit", x.square(0, 6), 10);
    c.due("waits", x.square(0, 7), 5);
    c.due("hands", x.count(4), 0);
  }

  private static void shelvesStay() {
    YouAreOnMute x = new YouAreOnMute();
    x.keep(0, 1, Checks.COOK, 3);
    x.image();
    x.keep(0, 1, Checks.SHY, 3);
    Checks.fill(x, 1, Checks.INTS, 5);
    x.restore();
    c.due("a shelf stays", x.cost(0), 14);
    c.due("a row stays", x.element(1, 0), 5);
    Checks.tell(x, "s000;");
    x.meetings(20, 1, 0);
    x.judge(1);
    Checks.tell(x, "s000;s000;m9;");
    x.restore();
    c.due("what is tried does not touch the image", x.count(0), 0);
  }

  private static void counts() {
    YouAreOnMute x = Checks.told("s003;s240;s359;s402;s241;m2;o4;h0;h3;t105;");
    int[] due = {5, 5, 4, 15, 2, 3, 3 + 0 + 9 + 2 + 1, 1};
    for (int what = 0; what <= 7; what++) {
      c.due("count " + what, x.count(what), due[what]);
    }
    x.mutes(2);
    c.due("the cook's noise, too", x.count(7), 6);
    x.goes(4);
    c.due("the other eager one's, too", x.count(7), 7);
    c.due("who can speak", x.count(5), 23);
    x.mutes(0);
    c.due("the first one muted, too", x.count(2), 1);
    c.due("noise of the first one", Checks.told("s350;s300;").count(7), 5);
    c.due("the first one not there", Checks.told("s000;s000;o0;").count(3), 2);
    c.due("-1", x.count(-1), -1);
    c.due("8", x.count(8), -1);
    c.due("far", x.count(Integer.MAX_VALUE), -1);
  }
}
