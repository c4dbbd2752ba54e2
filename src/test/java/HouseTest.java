/** Promises 1 to 9: the house as told. */
public final class HouseTest {
  private static final Checks c = new Checks("HouseTest");

  public static void main(String[] args) {
    newObject();
    text();
    formFaults();
    doingFaults();
    houseRefusals();
    kinds();
    squares();
    coming();
    muting();
    going();
    hands();
    turns();
    turnRefusals();
    laughs();
    c.end();
  }

  private static void newObject() {
    YouAreOnMute x = new YouAreOnMute();
    for (int what = 0; what <= 7; what++) {
      c.due("new, count " + what, x.count(what), 0);
    }
    c.due("new, square", x.square(0, 0), -1);
    c.due("new, next", x.next(0), -4);
    c.due("new, restore", x.restore(), -3);
    for (int d = 0; d < 8; d++) {
      c.due("new, shelf " + d, x.cost(d), -11);
    }
    YouAreOnMute other = new YouAreOnMute();
    Checks.come(x, Checks.PERSON, 0, 0);
    c.due("objects are apart", other.count(0), 0);
  }

  private static void text() {
    YouAreOnMute x = new YouAreOnMute();
    c.due("all letters", Checks.tell(x, "s000;s150;h1;m0;t025;l1;o0;"), 7);
    c.due("squares told", x.count(0), 2);
    c.due("clock: 4 to tell, 25 to speak", x.count(1), 29);
    c.due("not muted any more", x.square(0, 3), 0);
    c.due("gone", x.square(0, 4), 0);
    c.due("hand up", x.square(1, 5), 1);
    c.due("heard the laugh", x.square(0, 6), 12);
    c.due("laughed", x.square(1, 6), 11);
    c.due("the row stays", x.element(7, 26), ';');
    c.due("a house more", Checks.tell(x, "s209;o0;h1;"), 3);
    c.due("squares added", x.count(0), 3);
    c.due("there again", x.square(0, 4), 1);
    c.due("hand down", x.square(1, 5), 0);
    c.due("clock goes on", x.count(1), 29);
    c.due("m twice", Checks.tell(x, "m2;m2;m1;"), 3);
    c.due("muted ones", x.count(2), 2);
    c.due("a hundred bytes", Checks.tell(x, "m0;".repeat(30) + "t001;t101;"), 32);
    c.due("clock of two turns: 1 tells 30 tenths, 2 is eager: 6 and 9", x.count(1), 29 + 1 + 2 + 1);
  }

  private static void formFaults() {
    String[] texts = {"", "x", "s", "s1", "s12", "s123", "s12;", "s1234", "s123;s", "t01;", "m0;;",
        "m0;x", "ma;", "m", "m0", "m01;", "o/;", "o:;", "h0:", "l;", "t0011;", "S000;", " s000;",
        "s000; ", "s000;m0;tt", "s900;x", "m9;t000;q", "t00"};
    int[] places = {0, 0, 1, 2, 3, 4, 3, 4, 6, 3, 3, 3, 1, 1, 2, 2, 1, 1, 2, 1, 4, 0, 0, 5, 9, 5, 8, 3};
    for (int i = 0; i < texts.length; i++) {
      YouAreOnMute x = new YouAreOnMute();
      c.due("form of \"" + texts[i] + "\"", Checks.tell(x, texts[i]), -1000 - places[i]);
      c.due("nothing came of it", x.count(0), 0);
    }
    YouAreOnMute x = new YouAreOnMute();
    Checks.fill(x, 0, Checks.BYTES, 's', '0', '0', '0', -128);
    c.due("a byte below 0", x.house(0), -1004);
    Checks.fill(x, 0, Checks.BYTES, 's', '0' + 256, '0', '0', ';' - 256);
    c.due("lowest bits are told", x.house(0), 1);
  }

  private static void doingFaults() {
    String[] texts = {"s800;", "s900;", "m0;", "o0;", "h0;", "l0;", "t001;", "s000;m1;", "s000;t000;",
        "s000;o0;t001;", "s000;o0;l0;", "s000;o0;h0;", "s000;m0;m9;", "s000;h0;o0;m0;o0;h1;",
        "s000;s000;s000;s000;s000;s000;s000;", "s000;s000;s000;s000;s000;s000;s900;m7;"};
    int[] places = {0, 0, 0, 0, 0, 0, 0, 5, 5, 8, 8, 8, 8, 17, 30, 30};
    for (int i = 0; i < texts.length; i++) {
      YouAreOnMute x = new YouAreOnMute();
      c.due("doing \"" + texts[i] + "\"", Checks.tell(x, texts[i]), -2000 - places[i]);
      c.due("all or nothing", x.count(0), 0);
    }
    YouAreOnMute x = Checks.told("s000;s319;h1;m0;");
    String before = Checks.all(x);
    c.due("a fault behind much", Checks.tell(x, "o1;m0;t050;s000;l0;h0;m3;"), -2022);
    c.due("nothing of it came", Checks.all(x).equals(before) ? 1 : 0, 1);
    YouAreOnMute late = Checks.told("s000;");
    for (int i = 0; i < 100; i++) {
      late.turns(0, 99);
    }
    c.due("up to 9999, and one more", Checks.tell(late, "t099;t001;"), -2005);
    c.due("clock as it was", late.count(1), 9900);
    c.due("up to 9999", Checks.tell(late, "t098;t001;"), 2);
    c.due("clock", late.count(1), 9999);
  }

  private static void houseRefusals() {
    YouAreOnMute x = new YouAreOnMute();
    c.due("shelf -1", x.house(-1), -1);
    c.due("shelf 8", x.house(8), -1);
    c.due("nothing held", x.house(3), -11);
    x.keep(3, 1, 0, 0);
    c.due("a person", x.house(3), -12);
    x.row(3, Checks.SHORTS, 0);
    c.due("shorts", x.house(3), -12);
    x.row(3, Checks.INTS, 5);
    c.due("ints", x.house(3), -12);
    x.row(3, Checks.BYTES, 5);
    c.due("zeros", x.house(3), -1000);
  }

  /** Waits, yields, notices, noise of each kind with a figure and a lag. */
  private static void kinds() {
    int[][] due = {
        {Checks.PERSON, 7, 3, 8, 2, 17, 0}, {Checks.POLITE, 7, 3, 15, 5, 34, 0},
        {Checks.EAGER, 7, 3, 5, 0, 13, 1}, {Checks.COOK, 7, 3, 8, 2, 17, 7},
        {Checks.FROZEN, 7, 3, 99, 2, 99, 0}, {Checks.SHY, 7, 3, 30, 10, 34, 0},
        {Checks.CHAIR, 7, 3, 3, 0, 6, 1}, {Checks.GHOST, 7, 3, 99, 2, 99, 0},
        {Checks.PERSON, 0, 0, 5, 2, 10, 0}, {Checks.POLITE, 0, 0, 5, 5, 20, 0},
        {Checks.EAGER, 0, 0, 2, 0, 6, 1}, {Checks.COOK, 0, 0, 5, 2, 10, 0},
        {Checks.FROZEN, 0, 0, 99, 2, 99, 0}, {Checks.SHY, 0, 0, 10, 10, 20, 0},
        {Checks.CHAIR, 0, 0, 0, 0, 3, 1}, {Checks.GHOST, 0, 9, 99, 2, 99, 0},
        {Checks.SHY, 9, 9, 46, 10, 38, 0}, {Checks.CHAIR, 9, 9, 9, 0, 7, 1}};
    for (int[] one : due) {
      YouAreOnMute x = new YouAreOnMute();
      Checks.come(x, one[0], one[1], one[2]);
      String who = "kind " + one[0] + " figure " + one[1] + " lag " + one[2];
      c.due(who + " kind", x.square(0, 0), one[0]);
      c.due(who + " figure", x.square(0, 1), one[1]);
      c.due(who + " lag", x.square(0, 2), one[2]);
      for (int what = 7; what <= 10; what++) {
        c.due(who + " what " + what, x.square(0, what), one[what - 4]);
      }
      c.due(who + " can speak", x.count(5), one[3] < 99 ? 1 : 0);
    }
  }

  private static void squares() {
    YouAreOnMute x = Checks.told("s234;s000;s000;");
    c.due("muted at first", x.square(0, 3), 0);
    c.due("there at first", x.square(0, 4), 1);
    c.due("hand at first", x.square(0, 5), 0);
    c.due("spirit at first", x.square(0, 6), 10);
    c.due("what -1", x.square(0, -1), -1);
    c.due("what 11", x.square(0, 11), -1);
    c.due("q -1", x.square(-1, 0), -1);
    c.due("q 3", x.square(3, 0), -1);
    c.due("q far", x.square(Integer.MAX_VALUE, 0), -1);
    x.hands(2);
    x.hands(0);
    c.due("first hand", x.square(2, 5), 1);
    c.due("second hand", x.square(0, 5), 2);
    c.due("no hand", x.square(1, 5), 0);
    x.hands(2);
    c.due("first hand now", x.square(0, 5), 1);
    x.mutes(1);
    x.goes(1);
    c.due("muted", x.square(1, 3), 1);
    c.due("gone", x.square(1, 4), 0);
  }

  private static void coming() {
    YouAreOnMute x = new YouAreOnMute();
    x.row(1, Checks.BYTES, 3);
    x.keep(2, 1, Checks.COOK, 4);
    c.due("shelf -1", x.comes(-1, 0), -1);
    c.due("shelf 8", x.comes(8, 0), -1);
    c.due("lag -1", x.comes(2, -1), -1);
    c.due("lag 10", x.comes(2, 10), -1);
    c.due("lag ahead of nothing held", x.comes(0, 10), -1);
    c.due("nothing held", x.comes(0, 0), -11);
    c.due("a row", x.comes(1, 0), -12);
    for (int q = 0; q < 6; q++) {
      c.due("square " + q, x.comes(2, q), q);
    }
    c.due("no room", x.comes(2, 0), -2);
    c.due("nothing held, ahead of no room", x.comes(0, 0), -11);
    c.due("a row, ahead of no room", x.comes(1, 0), -12);
    c.due("six", x.count(0), 6);
    c.due("lag of the last", x.square(5, 2), 5);
    c.due("the cook stays on the shelf", x.cost(2), 11);
    x.keep(2, 1, Checks.FROZEN, 1);
    c.due("who came stays a cook", x.square(0, 0), Checks.COOK);
  }

  private static void muting() {
    YouAreOnMute x = Checks.told("s000;s000;");
    c.due("muted", x.mutes(1), 1);
    c.due("bits", x.count(2), 2);
    c.due("not any more", x.mutes(1), 0);
    c.due("no bits", x.count(2), 0);
    x.goes(0);
    c.due("one not there", x.mutes(0), 1);
    c.due("q -1", x.mutes(-1), -1);
    c.due("q 2", x.mutes(2), -1);
  }

  private static void going() {
    YouAreOnMute x = Checks.told("s000;s000;h1;h0;");
    c.due("gone", x.goes(1), 0);
    c.due("hand of the other", x.square(0, 5), 1);
    c.due("there bits", x.count(3), 1);
    c.due("again", x.goes(1), 1);
    c.due("hand stays down", x.square(1, 5), 0);
    c.due("hand of the other stays", x.square(0, 5), 1);
    c.due("q -1", x.goes(-1), -1);
    c.due("q 2", x.goes(2), -1);
  }

  private static void hands() {
    YouAreOnMute x = Checks.told("s000;s000;s000;");
    c.due("one up", x.hands(2), 1);
    c.due("two up", x.hands(0), 2);
    c.due("three up", x.hands(1), 3);
    c.due("one down", x.hands(0), 2);
    c.due("first", x.next(0), 2);
    c.due("second", x.next(1), 1);
    c.due("up again, last", x.hands(0), 3);
    c.due("third", x.next(2), 0);
    x.goes(1);
    c.due("not there", x.hands(1), -3);
    c.due("still two", x.count(4), 2);
    c.due("q -1", x.hands(-1), -1);
    c.due("q 3", x.hands(3), -1);
  }

  private static void turns() {
    YouAreOnMute x = Checks.told("s000;s190;s390;s200;s000;h0;h1;o4;");
    c.due("not muted: the cook hears 1, the eager one 9, the polite one 10", x.turns(0, 7), 2);
    c.due("clock", x.count(1), 7);
    c.due("hand down", x.square(0, 5), 0);
    c.due("the other's hand first now", x.square(1, 5), 1);
    c.due("frozen ones hear nothing", Checks.told("s000;s400;s700;").turns(0, 1), 0);
    c.due("muted ones hear", Checks.told("s000;s000;m1;").turns(0, 1), 1);
    x.mutes(0);
    x.mutes(2);
    c.due("told by the eager one", x.turns(0, 10), 3);
    c.due("6 tenths, 1 and 10 seconds", x.count(1), 7 + 1 + 10);
    c.due("muted no more", x.square(0, 3), 0);
    x.mutes(0);
    x.mutes(3);
    c.due("told by the polite one", x.turns(0, 10), 3);
    c.due("38 tenths", x.count(1), 18 + 4 + 10);
    x.mutes(0);
    x.mutes(1);
    x.hands(0);
    c.due("nobody tells", x.turns(0, 99), 0);
    c.due("clock all the same", x.count(1), 32 + 99);
    c.due("still muted", x.square(0, 3), 1);
    c.due("hand down all the same", x.square(0, 5), 0);
    c.due("the frozen one's turn is heard", Checks.told("s400;s000;").turns(0, 3), 1);
    YouAreOnMute second = Checks.told("s000;s000;m1;");
    c.due("told by the first one", second.turns(1, 5), 1);
    c.due("and muted no more", second.square(1, 3), 0);
    YouAreOnMute same = Checks.told("s000;s001;s300;s010;m0;");
    same.turns(0, 1);
    c.due("of 11, 10 and 11 tenths", same.count(1), 3);
  }

  private static void turnRefusals() {
    YouAreOnMute x = Checks.told("s000;s000;s000;o1;");
    c.due("q -1", x.turns(-1, 5), -1);
    c.due("q 3", x.turns(3, 5), -1);
    c.due("0 seconds", x.turns(0, 0), -1);
    c.due("100 seconds", x.turns(0, 100), -1);
    c.due("0 seconds ahead of not there", x.turns(1, 0), -1);
    c.due("not there", x.turns(1, 5), -3);
    for (int i = 0; i < 100; i++) {
      x.turns(0, 99);
    }
    x.turns(0, 98);
    c.due("clock 9998", x.count(1), 9998);
    x.hands(0);
    c.due("above 9999", x.turns(0, 2), -3);
    x.mutes(0);
    c.due("above 9999 by being told", x.turns(0, 1), -3);
    c.due("nothing changed", x.square(0, 3) * 10 + x.square(0, 5), 11);
    x.mutes(2);
    c.due("9999 with nobody who tells", x.turns(0, 1), 0);
    c.due("clock 9999", x.count(1), 9999);
    x.mutes(0);
    c.due("full", x.turns(0, 1), -3);
  }

  private static void laughs() {
    YouAreOnMute x = Checks.told("s000;s000;s400;s000;s000;m1;o3;");
    c.due("heard by a muted one and one more", x.laughs(0), 2);
    c.due("who laughed", x.square(0, 6), 11);
    c.due("who heard, muted", x.square(1, 6), 12);
    c.due("frozen", x.square(2, 6), 10);
    c.due("not there", x.square(3, 6), 10);
    c.due("who heard", x.square(4, 6), 12);
    c.due("a muted one laughs", x.laughs(1), 0);
    c.due("3 less", x.square(1, 6), 9);
    c.due("nobody more for that", x.square(0, 6), 11);
    c.due("a frozen one laughs", x.laughs(2), 0);
    c.due("3 less, too", x.square(2, 6), 7);
    x.laughs(2);
    x.laughs(2);
    c.due("down to 1", x.square(2, 6), 1);
    x.laughs(2);
    c.due("0 at least", x.square(2, 6), 0);
    for (int i = 0; i < 12; i++) {
      x.laughs(0);
    }
    c.due("20 at most, hearing", x.square(4, 6), 20);
    c.due("20 at most, laughing", x.square(0, 6), 20);
    YouAreOnMute loud = Checks.told("s000;s390;s200;s000;");
    c.due("the cook hears 1, the eager one 9", loud.laughs(0), 2);
    c.due("the cook", loud.square(1, 6), 12);
    c.due("the eager one", loud.square(2, 6), 12);
    c.due("the one with 10 of noise", loud.square(3, 6), 10);
    YouAreOnMute drowned = Checks.told("s000;s000;s390;s390;s400;m2;");
    drowned.goes(2);
    drowned.goes(2);
    drowned.mutes(2);
    c.due("drowned but for the cooks", drowned.laughs(0), 2);
    c.due("alone", Checks.told("s000;").laughs(0), 0);
    c.due("laughs not there", x.laughs(3), -3);
    c.due("q -1", x.laughs(-1), -1);
    c.due("q 5", x.laughs(5), -1);
  }
}
