/** The boundary cases of the text of a house: promise 2. */
public final class TextEdgesTest {
  private static final Checks c = new Checks("TextEdgesTest");

  public static void main(String[] args) {
    noByte();
    oneAtLeast();
    semicolons();
    letters();
    digits();
    asManyDigits();
    theEnd();
    aHundredBytes();
    bytesBelowZero();
    formGoesAhead();
    firstOfFaults();
    outOfRange();
    noSuchOne();
    notThere();
    gone();
    clock();
    noRoom();
    eachOnThoseAhead();
    withOneNothing();
    allOfIt();
    theRowStays();
    letterMeanings();
    houseRefused();
    c.end();
  }

  /** Of a text for a new object; a fault lets nothing come. */
  private static void due(String text, int answer) {
    YouAreOnMute x = new YouAreOnMute();
    c.due("\"" + text + "\"", Checks.tell(x, text), answer);
    if (answer < 0) {
      c.due("squares behind \"" + text + "\"", x.count(0), 0);
    }
  }

  private static void noByte() {
    c.sentence("one at least (a text with no byte)");
    due("", -1000);
    YouAreOnMute x = Checks.told("s000;");
    c.due("with a square there, too", Checks.tell(x, ""), -1000);
    c.due("he stays", x.count(0), 1);
  }

  private static void oneAtLeast() {
    c.sentence("STATEMENTS, .. one at least: how many");
    due("s000;", 1);
    due("s000;m0;", 2);
    due(";", -1000);
    due("s000;;", -1005);
  }

  private static void semicolons() {
    c.sentence("each with \";\" behind");
    due("s000", -1004);
    due("s000:", -1004);
    due("s000,m0;", -1004);
    due("s000;m0", -1007);
    due("s000;m0:", -1007);
    due("s000;t001", -1009);
    due("s000;t001<", -1009);
    due("s000; m0;", -1005);
    due("s000;m0;\n", -1008);
  }

  private static void letters() {
    c.sentence("\"s\", \"m\", \"o\", \"h\", \"l\", \"t\"");
    for (char sign = 0; sign < 128; sign++) {
      boolean one = "mohl".indexOf(sign) >= 0;
      boolean three = sign == 's' || sign == 't';
      YouAreOnMute x = Checks.told("s000;s000;");
      c.due("sign " + (int) sign + " with a digit", Checks.tell(x, sign + "0;"),
          one ? 1 : three ? -1002 : -1000);
      c.due("sign " + (int) sign + " with three", Checks.tell(x, sign + "101;"),
          three ? 1 : one ? -1002 : -1000);
    }
  }

  private static void digits() {
    c.sentence("(a digit each)");
    String[] texts = {"sx00;", "s0x0;", "s00x;", "mx;", "ox;", "hx;", "lx;", "tx01;", "t0x1;", "t00x;"};
    char[] outside = {'/', ':', ' ', '-', 'a', 0, ';'};
    for (String text : texts) {
      int place = text.indexOf('x');
      for (char sign : outside) {
        due(text.replace('x', sign), -1000 - place);
      }
    }
    due("s099;", 1);
    due("s700;", 1);
    due("s000;m0;o0;o0;h0;l0;t099;", 7);
    due("s000;".repeat(6) + "m5;o5;o5;h5;l5;t590;", 12);
  }

  private static void asManyDigits() {
    c.sentence("numbers in THE TEXT have just as many digits as told");
    due("s00;", -1003);
    due("s0000;", -1004);
    due("s000;m;", -1006);
    due("s000;m00;", -1007);
    due("s000;o;", -1006);
    due("s000;o00;", -1007);
    due("s000;h;", -1006);
    due("s000;h00;", -1007);
    due("s000;l;", -1006);
    due("s000;l00;", -1007);
    due("s000;t01;", -1008);
    due("s000;t0001;", -1009);
    due("s000;t-01;", -1006);
  }

  private static void theEnd() {
    c.sentence("the place of the first byte with which no HOUSE can go on (the end, if something lacks)");
    String whole = "s000;m0;o0;o0;h0;l0;t001;";
    for (int length = 0; length <= whole.length(); length++) {
      String text = whole.substring(0, length);
      int statements = 0;
      for (int i = 0; i < length; i++) {
        statements += text.charAt(i) == ';' ? 1 : 0;
      }
      boolean ends = length > 0 && text.charAt(length - 1) == ';';
      due(text, ends ? statements : -1000 - length);
    }
  }

  private static void aHundredBytes() {
    c.sentence("THE TEXT .. stands in a ROW of bytes (100 at most)");
    String squares = "s000;".repeat(6);
    String more = squares + "m0;".repeat(20) + "t001;" + "t101;";
    c.due("bytes", more.length(), 100);
    due(more, 6 + 20 + 2);
    due(more.substring(0, 99), -1099);
    due(more.substring(0, 99) + "0", -1099);
    due(more.substring(0, 99) + ":", -1099);
    due(squares + "m0;".repeat(23) + "m", -1100);
    due(squares + "m0;".repeat(22) + "t001", -1100);
    due(squares + "m0;".repeat(20) + "t001;s000;", -2095);
    due(squares.substring(5) + "m0;".repeat(25), 30);
    YouAreOnMute x = new YouAreOnMute();
    Checks.write(x, 0, "s000;" + "m0;".repeat(31) + "m1");
    c.due("a hundred bytes that end in a lack", x.house(0), -1100);
    x.put(0, 98, 'x');
    c.due("no letter at 98", x.house(0), -1098);
    x.put(0, 97, 'x');
    c.due("no semicolon at 97", x.house(0), -1097);
    due("s000;".repeat(5) + "m0;".repeat(24) + "m9;", -2097);
  }

  private static void bytesBelowZero() {
    c.sentence("a ROW of bytes: what is put in keeps its lowest bits");
    YouAreOnMute x = new YouAreOnMute();
    Checks.fill(x, 0, Checks.BYTES, 's' - 256, '0' + 512, '0', '0' - 1024, ';' + 256);
    c.due("told by their lowest bits", x.house(0), 1);
    int[] outside = {-128, -1, 128, 255, 's' + 128, 's' - 128};
    for (int value : outside) {
      Checks.fill(x, 0, Checks.BYTES, 's', '0', '0', '0', ';', value, '0', ';');
      c.due("letter " + value, x.house(0), -1005);
    }
    int[] digit = {'0' + 128, -1, -48, '9' - 128};
    for (int value : digit) {
      Checks.fill(x, 0, Checks.BYTES, 's', '0', value, '0', ';');
      c.due("digit " + value, x.house(0), -1002);
      Checks.fill(x, 0, Checks.BYTES, 's', '0', '0', '0', value);
      c.due("behind the digits " + value, x.house(0), -1004);
    }
    c.due("one came", x.count(0), 1);
  }

  private static void formGoesAhead() {
    c.sentence("FAULT: kind 1 ..; else kind 2");
    due("s800;", -2000);
    due("s800;x", -1005);
    due("m5;t000;s999;s000", -1017);
    due("s000;m1;m", -1009);
    due("s000;o0;t001;t001", -1017);
  }

  private static void firstOfFaults() {
    c.sentence("the place of the letter of the first STATEMENT that is not as it must be: -2000 less the place");
    due("m0;s000;", -2000);
    due("s000;m1;m2;", -2005);
    due("s000;m0;m2;s800;", -2008);
    due("s000;t001;m2;", -2010);
    due("s000;m0;o0;h0;m3;", -2011);
    c.sentence("the first byte with which no HOUSE can go on: -1000 less the place");
    due("xs000;y", -1000);
    due("s000;xy", -1005);
    due("s000;m0;o0;h", -1012);
  }

  private static void outOfRange() {
    c.sentence("a number out of range (KIND)");
    due("s700;", 1);
    due("s800;", -2000);
    due("s900;", -2000);
    due("s000;s899;", -2005);
    c.sentence("a number out of range (seconds)");
    due("s000;t001;", 2);
    due("s000;t099;", 2);
    due("s000;t000;", -2005);
    due("s000;t100;", -2005);
  }

  private static void noSuchOne() {
    c.sentence("no such one");
    String[] statements = {"mq;", "oq;", "hq;", "lq;", "tq01;"};
    for (String statement : statements) {
      due(statement.replace('q', '0'), -2000);
      for (int n = 1; n <= 6; n++) {
        String squares = "s000;".repeat(n);
        due(squares + statement.replace('q', (char) ('0' + n - 1)), n + 1);
        due(squares + statement.replace('q', (char) ('0' + n)), -2000 - 5 * n);
        due(squares + statement.replace('q', '9'), -2000 - 5 * n);
      }
    }
  }

  private static void notThere() {
    c.sentence("a TURN, a LAUGH or a HAND of one not THERE");
    due("s000;o0;t001;", -2008);
    due("s000;o0;l0;", -2008);
    due("s000;o0;h0;", -2008);
    due("s000;h0;o0;h0;", -2011);
    due("s000;o0;o0;t001;l0;h0;", 6);
    due("s000;s000;o0;t101;l1;h1;", 6);
    due("s000;m0;t001;l0;h0;", 5);
  }

  private static void gone() {
    c.sentence("\"m\" a SQUARE: MUTED, or not any more; \"o\" likewise (of one not THERE, too)");
    due("s000;o0;m0;", 3);
    due("s000;o0;m0;m0;o0;", 5);
    YouAreOnMute x = Checks.told("s000;o0;m0;");
    c.due("muted", x.square(0, 3), 1);
    c.due("not there", x.square(0, 4), 0);
  }

  private static YouAreOnMute late(int clock) {
    YouAreOnMute x = Checks.told("s000;s000;");
    int left = clock;
    while (left > 0) {
      int n = Math.min(99, left);
      x.turns(0, n);
      left -= n;
    }
    return x;
  }

  private static void clock() {
    c.sentence("CLOCK above 9999");
    YouAreOnMute x = late(9900);
    c.due("to 9999 and 1 more", Checks.tell(x, "t099;t001;"), -2005);
    c.due("clock as it was", x.count(1), 9900);
    c.due("to 9999", Checks.tell(x, "t098;t101;"), 2);
    c.due("clock", x.count(1), 9999);
    c.due("and 1 more", Checks.tell(x, "h0;m0;t101;"), -2006);
    c.due("nothing came", x.count(2) + x.count(4), 0);
    c.due("all but turns can be", Checks.tell(x, "s000;m0;o0;h1;l1;"), 5);
    x = late(9990);
    c.due("told in 2, and 8", Checks.tell(x, "m0;t008;"), -2003);
    c.due("told in 2, and 7", Checks.tell(x, "m0;t007;"), 2);
    c.due("clock", x.count(1), 9999);
  }

  private static void noRoom() {
    c.sentence("no room");
    due("s000;".repeat(6), 6);
    due("s000;".repeat(7), -2030);
    due("s000;".repeat(6) + "m5;s000;", -2033);
    due("s000;".repeat(6) + "o5;s000;", -2033);
    YouAreOnMute x = Checks.told("s000;".repeat(5));
    c.due("two more than five", Checks.tell(x, "s000;s000;"), -2005);
    c.due("five still", x.count(0), 5);
    c.due("one more than five", Checks.tell(x, "s109;"), 1);
    c.due("one more than six", Checks.tell(x, "m0;s000;"), -2003);
    c.due("six", x.count(0), 6);
    c.due("nobody was muted", x.count(2), 0);
  }

  private static void eachOnThoseAhead() {
    c.sentence("STATEMENTS are tried one behind the other, each on what those ahead of it made");
    due("m0;s000;", -2000);
    due("s000;m0;", 2);
    due("s000;o0;o0;l0;", 4);
    due("s000;o0;l0;o0;", -2008);
    YouAreOnMute x = Checks.told("s000;s000;");
    c.due("muted, told, and muted again", Checks.tell(x, "m0;t001;m0;t001;m0;m1;t001;"), 7);
    c.due("3, 3 and 1 seconds", x.count(1), 7);
    c.due("both muted", x.count(2), 3);
    x = Checks.told("s000;s000;");
    c.due("a laugh heard, one behind mute, one behind go", Checks.tell(x, "l0;m0;l0;m0;o1;l0;"), 6);
    c.due("10, 11, 8, 5", x.square(0, 6), 5);
    c.due("12", x.square(1, 6), 12);
  }

  private static void withOneNothing() {
    c.sentence("with one nothing");
    String text = "s359;h1;m0;m1;m0;t030;o2;l0;s000;h0;";
    YouAreOnMute x = Checks.told("s003;s140;s209;h2;t102;");
    String before = Checks.all(x);
    c.due("a fault of kind 2 at the end", Checks.tell(x, text + "m5;"), -2000 - text.length());
    c.same("all", Checks.all(x), before);
    c.due("a fault of kind 1 at the end", Checks.tell(x, text + "m4:"), -1002 - text.length());
    c.same("all", Checks.all(x), before);
    c.due("hands go on as they were", x.hands(1), 2);
    c.due("in the order they were", x.next(0) * 10 + x.next(1), 21);
    c.due("the next square", Checks.come(x, 0, 0, 0), 3);
  }

  private static void allOfIt() {
    c.sentence("Without FAULT all of it comes");
    YouAreOnMute x = Checks.told("s003;s140;s209;h2;t102;");
    c.due("ten statements", Checks.tell(x, "s359;h1;m0;m1;m0;t030;o2;l0;s000;h0;"), 10);
    c.due("squares", x.count(0), 5);
    c.due("clock", x.count(1), 32);
    c.due("muted", x.count(2), 2);
    c.due("there", x.count(3), 1 + 2 + 8 + 16);
    c.due("first hand", x.next(0), 1);
    c.due("second hand", x.next(1), 0);
    c.due("no third one", x.next(2), -4);
    c.due("lags", x.count(6), 3 + 0 + 9 + 9 + 0);
    c.due("noise", x.count(7), 5);
    c.due("who laughed", x.square(0, 6), 11);
    c.due("who heard", x.square(1, 6) + x.square(3, 6), 24);
    c.due("who came behind", x.square(4, 6), 10);
  }

  private static void theRowStays() {
    c.sentence("The ROW of a text .. stay there");
    YouAreOnMute x = new YouAreOnMute();
    Checks.write(x, 0, "s000;m0;");
    c.due("once", x.house(0), 2);
    c.due("twice", x.house(0), 2);
    c.due("two", x.count(0), 2);
    c.due("the first one muted and not any more", x.count(2), 0);
    String text = "s000;m0;";
    for (int i = 0; i < text.length(); i++) {
      c.due("byte " + i, x.element(0, i), text.charAt(i));
    }
    x.put(0, 0, 'x');
    c.due("with a fault", x.house(0), -1000);
    c.due("its first byte", x.element(0, 0), 'x');
    c.due("its last byte", x.element(0, 7), ';');
  }

  private static void letterMeanings() {
    c.sentence("\"s\" KIND, FIGURE, LAG: a SQUARE more");
    YouAreOnMute x = Checks.told("s019;s790;");
    c.due("kind, figure, lag", x.square(0, 0) * 100 + x.square(0, 1) * 10 + x.square(0, 2), 19);
    c.due("kind, figure, lag", x.square(1, 0) * 100 + x.square(1, 1) * 10 + x.square(1, 2), 790);
    c.sentence("\"h\" likewise: a HAND up, or down");
    x = Checks.told("s000;s000;h1;h0;h1;");
    c.due("the one", x.next(0), 0);
    c.due("no other", x.count(4), 1);
    c.sentence("\"t\" a SQUARE (a digit), seconds (2 digits): a TURN");
    x = Checks.told("s000;s000;h1;t110;");
    c.due("10 seconds", x.count(1), 10);
    c.due("hand down", x.count(4), 0);
    c.due("the tens and the ones", Checks.tell(x, "t012;t120;"), 2);
    c.due("32 seconds more", x.count(1), 42);
  }

  private static void houseRefused() {
    c.sentence("house: -1, -11, -12 (no ROW of bytes)");
    YouAreOnMute x = new YouAreOnMute();
    int[] wrong = {-1, 8, Integer.MIN_VALUE, Integer.MAX_VALUE};
    for (int d : wrong) {
      c.due("shelf " + d, x.house(d), -1);
    }
    for (int d = 0; d <= 7; d++) {
      c.due("nothing on shelf " + d, x.house(d), -11);
    }
    x.keep(0, 1, Checks.PERSON, 0);
    c.due("a person", x.house(0), -12);
    int[] text = {'s', '0', '0', '0', ';'};
    Checks.fill(x, 1, Checks.SHORTS, text);
    Checks.fill(x, 2, Checks.INTS, text);
    Checks.fill(x, 3, Checks.BYTES, text);
    c.due("shorts", x.house(1), -12);
    c.due("ints", x.house(2), -12);
    c.due("nobody came", x.count(0), 0);
    c.due("bytes", x.house(3), 1);
    x.row(1, Checks.SHORTS, 0);
    c.due("no shorts", x.house(1), -12);
    x.row(0, Checks.BYTES, 0);
    c.due("no bytes", x.house(0), -1000);
    x.row(7, Checks.BYTES, 100);
    c.due("a hundred zeros", x.house(7), -1000);
  }
}
