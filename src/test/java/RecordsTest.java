/** Promises 26 to 29: records and meetings. */
public final class RecordsTest {
  private static final Checks c = new Checks("RecordsTest");

  public static void main(String[] args) {
    cooked();
    forged();
    recordRefusals();
    judge();
    judgeRefusals();
    meetings();
    meetingRefusals();
    c.end();
  }

  private static void cooked() {
    YouAreOnMute x = Checks.told("s000;s000;s000;");
    Checks.fill(x, 0, Checks.BYTES, 9, 4);
    c.due("all three could", x.cooked(0, 4, 0), 3);
    c.due("the least", x.cooked(0, 4, 1), 0);
    c.due("of another figure", x.cooked(0, 5, 0), 0);
    c.due("of another figure, the least", x.cooked(0, 5, 1), -4);
    Checks.fill(x, 0, Checks.SHORTS, 9, 4, 0, 4);
    c.due("not who was muted", x.cooked(0, 4, 0), 2);
    c.due("the least but him", x.cooked(0, 4, 1), 1);
    Checks.fill(x, 0, Checks.INTS, 9, 4, 0, 4, 2, 0, 1, 4);
    c.due("who was muted as it was still", x.cooked(0, 4, 0), 1);
    c.due("he", x.cooked(0, 4, 1), 2);
    Checks.fill(x, 0, Checks.BYTES, 9, 0);
    c.due("no noise of figure 0", x.cooked(0, 0, 0), 3);
    c.due("no noise of figure 4", x.cooked(0, 4, 0), 0);
    x.row(0, Checks.BYTES, 0);
    c.due("nothing told", x.cooked(0, 4, 0), 3);
    c.due("nothing told, the least", x.cooked(0, 4, 1), 0);
    YouAreOnMute none = new YouAreOnMute();
    Checks.fill(none, 0, Checks.BYTES, 9, 4);
    c.due("nobody there to have", none.cooked(0, 4, 0), 0);
    c.due("nobody there, the least", none.cooked(0, 4, 1), -4);
  }

  private static void forged() {
    YouAreOnMute x = Checks.told("s000;s000;s000;");
    Checks.fill(x, 0, Checks.BYTES, 9, 4, 0, 4, 2, 0, 1, 4);
    c.due("one fits all", x.forged(0, 4), -4);
    c.due("of another figure", x.forged(0, 3), 0);
    Checks.fill(x, 0, Checks.BYTES, 9, 4, 0, 4, 2, 0, 1, 0, 9, 4);
    c.due("two were still it", x.forged(0, 4), 3);
    Checks.fill(x, 0, Checks.BYTES, 0, 0, 1, 0);
    c.due("each alone, but not both", x.forged(0, 4), 1);
    x.row(0, Checks.BYTES, 0);
    c.due("nothing told", x.forged(0, 4), -4);
    YouAreOnMute none = new YouAreOnMute();
    Checks.fill(none, 0, Checks.BYTES, 9, 4);
    c.due("nobody there to have", none.forged(0, 4), 0);
  }

  private static void recordRefusals() {
    YouAreOnMute x = Checks.told("s000;s000;");
    c.due("shelf -1", x.cooked(-1, 1, 0), -1);
    c.due("shelf 8", x.cooked(8, 1, 0), -1);
    c.due("f -1 ahead of nothing held", x.cooked(0, -1, 0), -1);
    c.due("f 10", x.cooked(0, 10, 0), -1);
    c.due("what -1", x.cooked(0, 1, -1), -1);
    c.due("what 2", x.cooked(0, 1, 2), -1);
    c.due("forged, shelf -1", x.forged(-1, 1), -1);
    c.due("forged, shelf 8", x.forged(8, 1), -1);
    c.due("forged, f -1", x.forged(0, -1), -1);
    c.due("forged, f 10", x.forged(0, 10), -1);
    refused(x, "nothing held", -11);
    x.keep(0, 1, Checks.COOK, 4);
    refused(x, "a person", -12);
    int[][] wrong = {{9}, {9, 4, 0}, {2, 4}, {-1, 4}, {8, 4}, {10, 4}, {9, -1}, {9, 10}, {-128, 4},
        {9, -128}, {9, 4, 0, 10}, {9, 5, 2, 0}};
    for (int[] values : wrong) {
      Checks.fill(x, 0, Checks.BYTES, values);
      refused(x, "record of " + values.length + " from " + values[0], -13);
    }
  }

  private static void refused(YouAreOnMute x, String what, int due) {
    c.due("cooked, " + what, x.cooked(0, 4, 0), due);
    c.due("the least, " + what, x.cooked(0, 4, 1), due);
    c.due("forged, " + what, x.forged(0, 4), due);
  }

  private static void judge() {
    YouAreOnMute x = Checks.told("s200;s000;s190;");
    Checks.fill(x, 0, Checks.BYTES, 0, 1, 2, 9, 9);
    c.due("each muted behind it, for good", x.judge(0), -4);
    c.due("nobody is muted by it", x.count(2), 0);
    Checks.fill(x, 0, Checks.BYTES, 1);
    c.due("not the first", x.judge(0), 0);
    Checks.fill(x, 0, Checks.SHORTS, 0, 1, 0);
    c.due("not the third", x.judge(0), 2);
    Checks.fill(x, 0, Checks.INTS, 0, 1, 2, 0);
    c.due("nobody was due", x.judge(0), 3);
    Checks.fill(x, 0, Checks.INTS, Integer.MIN_VALUE, 1, Integer.MIN_VALUE, 9, 3);
    c.due("skipped, but held", x.judge(0), 4);
    Checks.fill(x, 0, Checks.SHORTS, -128);
    c.due("not the least of shorts", x.judge(0), 0);
    Checks.fill(x, 0, Checks.SHORTS, -32768, -32768);
    c.due("all skipped", x.judge(0), -4);
    Checks.fill(x, 0, Checks.BYTES, -128, 9);
    c.due("a speaker where nobody is told", x.judge(0), 1);
    x.row(0, Checks.BYTES, 0);
    c.due("nothing told", x.judge(0), -4);
    YouAreOnMute clash = Checks.told("s000;s000;");
    Checks.fill(clash, 0, Checks.BYTES, 9, 9, 0);
    c.due("nobody, time and again", clash.judge(0), 2);
    Checks.fill(x, 0, Checks.BYTES, 1, 2, 9);
    x.mutes(0);
    c.due("who is muted already", x.judge(0), -4);
    YouAreOnMute none = new YouAreOnMute();
    Checks.fill(none, 0, Checks.BYTES, 9, 0);
    c.due("no squares", none.judge(0), 1);
  }

  private static void judgeRefusals() {
    YouAreOnMute x = new YouAreOnMute();
    c.due("shelf -1", x.judge(-1), -1);
    c.due("shelf 8", x.judge(8), -1);
    c.due("nothing held", x.judge(0), -11);
    x.keep(0, 1, 0, 0);
    c.due("a person", x.judge(0), -12);
  }

  private static int z;

  private static int draw(int n) {
    z = z * 1103515245 + 12345;
    return (z & 0x7fffffff) / 65536 % n;
  }

  /** Each meeting is held on an object of its own. */
  private static void meetings() {
    java.util.Random random = new java.util.Random(29);
    int[] seeds = {0, 1, -1, Integer.MIN_VALUE, Integer.MAX_VALUE, 42, 4711, -123456789};
    for (int round = 0; round < 40; round++) {
      int n = random.nextInt(7);
      int[] kinds = new int[n];
      int[] figures = new int[n];
      YouAreOnMute x = new YouAreOnMute();
      for (int q = 0; q < n; q++) {
        kinds[q] = random.nextInt(8);
        figures[q] = random.nextInt(10);
        Checks.come(x, kinds[q], figures[q], random.nextInt(10));
      }
      if (n > 2) {
        x.goes(1);
        x.mutes(0);
      }
      String before = Checks.all(x);
      int many = 1 + random.nextInt(20);
      int seed = round < seeds.length ? seeds[round] : random.nextInt();
      z = seed;
      int ended = 0;
      int tenths = 0;
      for (int meeting = 0; meeting < many; meeting++) {
        YouAreOnMute one = new YouAreOnMute();
        for (int q = 0; q < n; q++) {
          Checks.come(one, kinds[q], figures[q], draw(10));
          if (draw(2) == 1) {
            one.mutes(q);
          }
        }
        if (n > 2) {
          one.goes(1);
        }
        if (one.pause(0) >= 0) {
          ended++;
          tenths += one.pause(1);
        }
      }
      c.due(many + " meetings of seed " + seed, x.meetings(many, seed, 0), ended);
      c.due(many + " meetings of seed " + seed + ", tenths", x.meetings(many, seed, 1), tenths);
      c.due("all is as it was", Checks.all(x).equals(before) ? 1 : 0, 1);
    }
    // Of seed 0 the draws are of 0, 21468, 9988, 22117: a lag of 0, not muted; a lag of 8, muted.
    YouAreOnMute one = Checks.told("s009;m0;");
    c.due("seed 0, one meeting", one.meetings(1, 0, 0), 1);
    c.due("seed 0, its tenths", one.meetings(1, 0, 1), 5);
    c.due("seed 0, two meetings", one.meetings(2, 0, 0), 1);
    c.due("seed 0, their tenths", one.meetings(2, 0, 1), 5);
  }

  private static void meetingRefusals() {
    YouAreOnMute x = Checks.told("s000;");
    c.due("n 0", x.meetings(0, 1, 0), -1);
    c.due("n 21", x.meetings(21, 1, 0), -1);
    c.due("n -1", x.meetings(-1, 1, 0), -1);
    c.due("what -1", x.meetings(1, 1, -1), -1);
    c.due("what 2", x.meetings(1, 1, 2), -1);
    c.due("no squares", new YouAreOnMute().meetings(20, 1, 0), 0);
    c.due("no squares, tenths", new YouAreOnMute().meetings(20, 1, 1), 0);
  }
}
