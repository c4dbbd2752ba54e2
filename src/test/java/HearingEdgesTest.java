/** The boundary cases of turns, laughs and pauses: terms I, promises 8 to 10. */
public final class HearingEdgesTest {
  private static final Checks c = new Checks("HearingEdgesTest");
  private static final int MIN = Integer.MIN_VALUE;
  private static final int MAX = Integer.MAX_VALUE;

  public static void main(String[] args) {
    noiseHeard();
    noiseOfBoth();
    noiseOfSome();
    whoHears();
    seconds();
    clock();
    clockByBeingTold();
    tellers();
    leastTells();
    cutToSeconds();
    nobodyTells();
    turnHand();
    turnOfNoneAndAll();
    turnRefused();
    laughSpirits();
    laughAtMost();
    laughAtLeast();
    laughOfNoneAndAll();
    laughRefused();
    pauseStarts();
    pauseLag();
    pauseYields();
    pauseAnew();
    pauseAlone();
    pauseNever();
    pauseLongest();
    pauseWhat();
    c.end();
  }

  /** Who hears square 0, by each call that tells it. */
  private static void heard(String text, int due) {
    c.due("a turn of " + text, Checks.told(text).turns(0, 1), due);
    c.due("a laugh of " + text, Checks.told(text).laughs(0), due);
    c.due("rule 0 of " + text, Checks.told(text).rule(0, 0, 0), due);
  }

  private static void noiseHeard() {
    c.sentence("one HEARS the speaker, if that is 9 or less");
    heard("s000;s000;s390;o1;o1;", 2);
    heard("s000;s000;s390;s200;", 2);
    heard("s000;s000;s380;s200;", 3);
    // 10 for the second one; who makes some of it himself hears less.
    heard("s000;s000;s380;s200;s600;", 3);
    heard("s000;s000;s350;s340;", 3);
    heard("s000;s000;s350;s350;", 2);
    heard("s000;s100;s390;s390;s390;s390;", 0);
  }

  private static void noiseOfBoth() {
    c.sentence("NOISE .. of all .. but both, together");
    // The cook's own noise, be he the speaker or the hearer, is in nobody's way.
    heard("s390;s000;s390;", 2);
    heard("s390;s000;s390;s200;", 2);
    heard("s200;s390;", 1);
    heard("s390;s390;", 1);
  }

  private static void noiseOfSome() {
    c.sentence("NOISE .. of all THERE and not MUTED");
    heard("s000;s000;s390;s390;", 2);
    heard("s000;s000;s390;s390;m2;", 3);
    heard("s000;s000;s390;s390;o2;", 2);
    heard("s000;s000;s390;s390;m2;o2;", 2);
    heard("s000;s000;s390;s390;m2;m2;", 2);
    heard("s000;s000;s390;s390;o3;o3;", 2);
  }

  private static void whoHears() {
    c.sentence("and one is THERE and one's WAITS are below 99");
    heard("s000;s599;", 1);
    heard("s000;s400;", 0);
    heard("s000;s799;", 0);
    heard("s000;s000;m1;", 1);
    heard("s000;s000;o1;", 0);
    heard("s000;s000;o1;o1;", 1);
    heard("s000;s400;s000;s700;s000;s000;o2;m4;", 2);
  }

  private static void seconds() {
    c.sentence("A TURN of one for n seconds (1 .. 99)");
    YouAreOnMute x = Checks.told("s000;s000;");
    c.due("1", x.turns(0, 1), 1);
    c.due("clock", x.count(1), 1);
    c.due("99", x.turns(0, 99), 1);
    c.due("clock", x.count(1), 100);
    int[] wrong = {0, 100, -1, MIN, MAX};
    for (int n : wrong) {
      c.due("seconds " + n, x.turns(0, n), -1);
    }
    c.due("clock as before", x.count(1), 100);
  }

  /** One with so many seconds on the clock, by turns of the first one; at most 101 calls. */
  private static YouAreOnMute late(String text, int clock) {
    YouAreOnMute x = Checks.told(text);
    int left = clock;
    while (left > 0) {
      int n = Math.min(99, left);
      x.turns(0, n);
      left -= n;
    }
    return x;
  }

  private static void clock() {
    c.sentence("-3 (.. CLOCK above 9999)");
    YouAreOnMute x = late("s000;s000;", 9900);
    c.due("clock", x.count(1), 9900);
    c.due("99 to 9999", x.turns(1, 99), 1);
    c.due("clock 9999", x.count(1), 9999);
    c.due("full: 1 more", x.turns(1, 1), -3);
    c.due("full: 99 more", x.turns(0, 99), -3);
    c.due("clock 9999 still", x.count(1), 9999);
    x = late("s000;s000;h1;", 9901);
    c.due("99 to 10000", x.turns(1, 99), -3);
    c.due("clock as it was", x.count(1), 9901);
    c.due("his hand is up still", x.square(1, 5), 1);
    c.due("98 to 9999", x.turns(1, 98), 1);
    c.due("clock 9999", x.count(1), 9999);
  }

  private static void clockByBeingTold() {
    c.sentence("-3 (.. CLOCK above 9999), by what being told takes, too");
    // Of a person without a figure: 10 tenths, so 1 and 1 seconds.
    YouAreOnMute x = late("s000;s000;", 9990);
    x.hands(1);
    x.mutes(1);
    c.due("2 and 8 to 10000", x.turns(1, 8), -3);
    c.due("clock as it was", x.count(1), 9990);
    c.due("muted still", x.square(1, 3), 1);
    c.due("hand up still", x.square(1, 5), 1);
    c.due("2 and 7 to 9999", x.turns(1, 7), 1);
    c.due("clock 9999", x.count(1), 9999);
    c.due("muted no more", x.square(1, 3), 0);
    x = late("s000;s000;", 9990);
    x.mutes(0);
    x.mutes(1);
    c.due("with nobody who tells 10 are too many", x.turns(1, 10), -3);
    c.due("clock as it was", x.count(1), 9990);
    c.due("and 9 are not", x.turns(1, 9), 0);
    c.due("clock 9999", x.count(1), 9999);
  }

  /** How many seconds go by beside the 10 of the turn of square 0. */
  private static void tellingTakes(String text, int due) {
    YouAreOnMute x = Checks.told(text);
    x.turns(0, 10);
    c.due("telling takes in " + text, x.count(1) - 10, due);
    c.due("muted behind it in " + text, x.square(0, 3), 0);
  }

  private static void tellers() {
    c.sentence("the first of the others who CAN SPEAK tells him");
    tellingTakes("s200;s000;m0;", 2);
    tellingTakes("s000;s190;s200;m0;", 1);
    tellingTakes("s000;s190;s200;m0;m2;", 4);
    tellingTakes("s000;s190;s200;m0;o2;", 4);
    tellingTakes("s000;s190;s400;m0;", 4);
    tellingTakes("s000;s400;s700;s600;s190;s200;m0;o3;m5;", 4);
    c.sentence("if he is MUTED");
    tellingTakes("s000;s000;", 0);
    tellingTakes("s000;s000;m0;m0;", 0);
    tellingTakes("s000;s000;m1;", 0);
  }

  private static void leastTells() {
    c.sentence("that with the least NOTICES and LAG, of several the least");
    YouAreOnMute x = Checks.told("s000;s004;s040;s013;s031;s022;");
    c.due("all take 14, the first of the others", x.told(0, 0), 1);
    c.due("he himself is none of them", x.told(1, 0), 0);
    x.goes(0);
    c.due("and behind those gone", x.told(1, 0), 2);
    c.due("the last but himself", Checks.told("s000;s005;s031;s003;").told(3, 0), 0);
    c.due("13 is less than 14", Checks.told("s000;s004;s003;").told(0, 0), 2);
    c.due("the lag counts", Checks.told("s000;s001;s000;").told(0, 0), 2);
    c.due("the figure counts", Checks.told("s000;s010;s000;").told(0, 0), 2);
  }

  private static void cutToSeconds() {
    c.sentence("so many tenths, cut to seconds, and 1 go by");
    tellingTakes("s000;s600;m0;", 1);
    tellingTakes("s000;s230;m0;", 1);
    tellingTakes("s000;s240;m0;", 2);
    tellingTakes("s000;s204;m0;", 2);
    tellingTakes("s000;s090;m0;", 2);
    tellingTakes("s000;s091;m0;", 3);
    tellingTakes("s000;s140;m0;", 3);
    tellingTakes("s000;s149;m0;", 4);
    tellingTakes("s000;s151;m0;", 4);
    tellingTakes("s000;s189;m0;", 5);
    tellingTakes("s000;s599;m0;", 5);
    tellingTakes("s000;s609;m0;", 2);
  }

  private static void untold(String text) {
    YouAreOnMute x = Checks.told(text);
    c.due("nobody hears " + text, x.turns(0, 7), 0);
    c.due("clock of " + text, x.count(1), 7);
    c.due("muted still " + text, x.square(0, 3), 1);
  }

  private static void nobodyTells() {
    c.sentence("(nobody: he speaks n seconds, nobody hears)");
    untold("s000;m0;");
    untold("s000;s000;m0;m1;");
    untold("s000;s000;m0;o1;");
    untold("s000;s400;m0;");
    untold("s000;s700;s000;s000;m0;m2;o3;");
    untold("s000;s000;s000;s000;s000;s000;m0;m1;m2;m3;m4;m5;");
  }

  private static void turnHand() {
    c.sentence("his HAND is down");
    YouAreOnMute x = Checks.told("s000;s000;s000;h1;h0;h2;");
    c.due("not muted", x.turns(0, 1), 2);
    c.due("down", x.square(0, 5), 0);
    c.due("the others' stay", x.square(1, 5) * 10 + x.square(2, 5), 12);
    x.mutes(1);
    c.due("told", x.turns(1, 1), 2);
    c.due("down", x.square(1, 5), 0);
    c.due("the other's moves up", x.square(2, 5), 1);
    c.due("no hand was up", x.turns(0, 1), 2);
    c.due("nor is it now", x.square(0, 5), 0);
    c.due("one hand", x.count(4), 1);
    Checks.tell(x, "m0;m1;m2;");
    c.due("nobody tells", x.turns(2, 1), 0);
    c.due("down, too", x.count(4), 0);
  }

  private static void turnOfNoneAndAll() {
    c.sentence("those of the others who HEAR hear it");
    c.due("alone", Checks.told("s000;").turns(0, 1), 0);
    c.due("all five others", Checks.told("s000;".repeat(6)).turns(3, 1), 5);
    c.due("all five others, muted", Checks.told("s000;".repeat(6) + "m1;m2;m3;m4;m5;").turns(0, 1), 5);
    c.due("behind being told", Checks.told("s000;".repeat(6) + "m3;").turns(3, 1), 5);
    c.due("a frozen one's", Checks.told("s400;s000;").turns(0, 1), 1);
    YouAreOnMute frozen = Checks.told("s400;s000;m0;");
    c.due("a muted frozen one's", frozen.turns(0, 1), 1);
    c.due("is muted no more", frozen.square(0, 3), 0);
  }

  private static void turnRefused() {
    c.sentence("turns: -1, -3 (not THERE, CLOCK above 9999)");
    YouAreOnMute x = Checks.told("s000;s000;o0;m0;");
    c.due("not there", x.turns(0, 1), -3);
    c.due("not there, 99", x.turns(0, 99), -3);
    c.due("not there, but seconds out of range go ahead", x.turns(0, 0), -1);
    c.due("not there, but seconds out of range go ahead", x.turns(0, 100), -1);
    c.due("clock", x.count(1), 0);
    c.due("muted still", x.square(0, 3), 1);
    x.goes(0);
    c.due("there again", x.turns(0, 1), 1);
    x = late("s000;s000;o1;", 9999);
    c.due("clock full, seconds out of range go ahead", x.turns(0, 100), -1);
    c.due("clock full, no such one goes ahead", x.turns(2, 1), -1);
    c.due("clock full", x.turns(0, 1), -3);
    c.due("not there and clock full", x.turns(1, 1), -3);
  }

  private static void laughSpirits() {
    c.sentence("each of the others who HEARS him has SPIRIT 2 more; he has 1 more, if somebody heard it");
    YouAreOnMute x = Checks.told("s000;s000;s400;s000;s000;o3;m4;");
    c.due("two hear", x.laughs(0), 2);
    int[] due = {11, 12, 10, 10, 12};
    for (int q = 0; q < 5; q++) {
      c.due("spirit of " + q, x.square(q, 6), due[q]);
    }
    c.sentence("if he CAN SPEAK .. else 3 less");
    c.due("a muted one", x.laughs(4), 0);
    c.due("his spirit", x.square(4, 6), 9);
    c.due("a frozen one", x.laughs(2), 0);
    c.due("his spirit", x.square(2, 6), 7);
    c.due("the first one's stays", x.square(0, 6), 11);
    c.due("the second one's stays", x.square(1, 6), 12);
    c.due("nobody tells a muted one who laughs", x.count(1) * 10 + x.square(4, 3), 1);
  }

  private static void laughAtMost() {
    c.sentence("SPIRIT 2 more (20 at most)");
    YouAreOnMute x = Checks.told("s000;s000;");
    for (int i = 1; i <= 4; i++) {
      x.laughs(0);
    }
    c.due("heard four", x.square(1, 6), 18);
    c.due("heard a fifth", x.laughs(0), 1);
    c.due("20", x.square(1, 6), 20);
    c.due("heard a sixth", x.laughs(0), 1);
    c.due("20 still", x.square(1, 6), 20);
    // An odd one: laughs once himself, then hears to 19 and on.
    x = Checks.told("s000;s000;");
    x.laughs(1);
    for (int i = 1; i <= 4; i++) {
      x.laughs(0);
    }
    c.due("19", x.square(1, 6), 19);
    x.laughs(0);
    c.due("from 19 to 20", x.square(1, 6), 20);
    c.sentence("he has 1 more (SPIRIT 0 .. 20)");
    x = Checks.told("s000;s000;");
    for (int i = 1; i <= 9; i++) {
      x.laughs(0);
    }
    c.due("19 by laughing", x.square(0, 6), 19);
    x.laughs(0);
    c.due("20 by laughing", x.square(0, 6), 20);
    c.due("heard still", x.laughs(0), 1);
    c.due("20 still", x.square(0, 6), 20);
    x.mutes(0);
    x.laughs(0);
    c.due("17 from 20", x.square(0, 6), 17);
  }

  private static void laughAtLeast() {
    c.sentence("else 3 less (0 at least)");
    YouAreOnMute x = Checks.told("s000;");
    int[] due = {7, 4, 1, 0, 0};
    for (int spirit : due) {
      c.due("alone", x.laughs(0), 0);
      c.due("spirit", x.square(0, 6), spirit);
    }
    // From 12, which three laughs lead to 3 and a fourth to 0.
    x = Checks.told("s000;s000;");
    x.laughs(0);
    x.mutes(1);
    for (int i = 1; i <= 3; i++) {
      x.laughs(1);
    }
    c.due("3", x.square(1, 6), 3);
    x.laughs(1);
    c.due("from 3 to 0", x.square(1, 6), 0);
    // From 11: 8, 5, 2, 0.
    x = Checks.told("s000;s000;");
    x.laughs(0);
    x.mutes(0);
    for (int i = 1; i <= 3; i++) {
      x.laughs(0);
    }
    c.due("2", x.square(0, 6), 2);
    x.laughs(0);
    c.due("from 2 to 0", x.square(0, 6), 0);
    x.mutes(0);
    x.laughs(0);
    c.due("and up again", x.square(0, 6), 1);
  }

  private static void laughOfNoneAndAll() {
    c.sentence("A LAUGH: how many heard it");
    c.due("alone", Checks.told("s000;").laughs(0), 0);
    YouAreOnMute x = Checks.told("s000;".repeat(6));
    c.due("all five others", x.laughs(5), 5);
    c.due("all spirits", x.spirits(0), 6 * 10 + 5 * 2 + 1);
    c.due("can speak, but nobody hears", Checks.told("s000;s400;s700;").laughs(0), 0);
    x = Checks.told("s000;s000;s390;s390;s390;");
    c.due("can speak, but it is too loud", x.laughs(0), 0);
    c.due("3 less", x.square(0, 6), 7);
    c.due("nobody more", x.spirits(0), 47);
  }

  private static void laughRefused() {
    c.sentence("laughs: -1, -3 not THERE");
    YouAreOnMute x = Checks.told("s000;s000;o0;");
    c.due("not there", x.laughs(0), -3);
    c.due("spirit as it was", x.square(0, 6), 10);
    x.mutes(0);
    c.due("not there and muted", x.laughs(0), -3);
    c.due("spirits as they were", x.spirits(0), 20);
    c.due("no such one", x.laughs(2), -1);
  }

  private static void pauseDue(String text, int who, int tenths, int clashes) {
    YouAreOnMute x = Checks.told(text);
    c.due("who speaks of " + text, x.pause(0), who);
    c.due("tenths of " + text, x.pause(1), tenths);
    c.due("clashes of " + text, x.pause(2), clashes);
  }

  private static void pauseStarts() {
    c.sentence("who starts first (the least) starts");
    pauseDue("s110;s000;s120;", 1, 5, 0);
    pauseDue("s600;s200;", 0, 0, 0);
    pauseDue("s120;s110;s000;s130;s140;s150;", 2, 5, 0);
    c.sentence("each who CAN SPEAK would start");
    pauseDue("s600;s200;s000;m0;", 1, 2, 0);
    pauseDue("s600;s200;s000;m0;o1;", 2, 5, 0);
    pauseDue("s600;s200;s000;m0;m0;o1;o1;", 0, 0, 0);
    pauseDue("s400;s200;s700;", 1, 2, 0);
  }

  private static void pauseLag() {
    c.sentence("each other one whose start is no more than that and the own LAG starts, too");
    // 5 and, with a lag of 2, 7 and 8: 7 is no more than 5 and 2, and 8 is more.
    pauseDue("s000;s102;", 0, 12, 1);
    pauseDue("s000;s112;", 0, 5, 0);
    pauseDue("s000;s122;", 0, 5, 0);
    // The lag of the first one doesn't count, be it 9.
    pauseDue("s103;s160;", 0, 8, 0);
    pauseDue("s009;s291;", 1, 3, 0);
    pauseDue("s209;s170;", 0, 11, 0);
    // Without a lag: the same start, and one tenth later.
    pauseDue("s100;s000;", 1, 5 + 7, 1);
    pauseDue("s110;s000;", 1, 5, 0);
    // The lag of 9, just within and just outside.
    pauseDue("s200;s209;", -4, -4, -4);
    pauseDue("s600;s209;", 0, 0, 0);
  }

  private static void pauseYields() {
    c.sentence("YIELDS for each ROUND in which he started ahead (of this PAUSE)");
    // 5, 7, 9, 11, 13 for the persons; the polite one with 14 doesn't start in these, and then speaks.
    pauseDue("s000;s000;s190;", 2, 5 + 7 + 9 + 11 + 13 + 14, 5);
    // Both at 10; then 20 and 15.
    pauseDue("s500;s150;", 1, 10 + 15, 1);
    // 9 at first; the polite one 14, the person 11.
    pauseDue("s004;s140;", 0, 9 + 11, 1);
    c.sentence("else all who started stop, and there is one ROUND more");
    // Two at 5, then at 7 and 10; the shy one would start at 10 all the while.
    pauseDue("s000;s100;s500;", 0, 5 + 7, 1);
    pauseDue("s100;s100;s000;", 2, 5 + 7, 1);
    // The eager one never yields: he starts at 5 again and again, until the other one's lag is too little.
    pauseDue("s203;s005;", 0, 5 + 5, 1);
    pauseDue("s203;s007;", 0, 5 + 5, 1);
    pauseDue("s203;s008;", 0, 5 + 5, 1);
    pauseDue("s205;s009;", 0, 7 + 7 + 7, 2);
    pauseDue("s209;s009;", 0, 11 * 5, 4);
    pauseDue("s203;s606;", -4, -4, -4);
  }

  private static void pauseAnew() {
    c.sentence("who SPEAKS, TENTHS, clashes are the same in a PAUSE behind a PAUSE");
    YouAreOnMute x = Checks.told("s000;s000;s190;");
    for (int i = 0; i < 3; i++) {
      c.due("who", x.pause(0), 2);
      c.due("tenths", x.pause(1), 59);
      c.due("clashes", x.pause(2), 5);
    }
    x.mutes(2);
    c.due("for ever now", x.pause(0), -4);
    x.mutes(0);
    c.due("one alone", x.pause(0), 1);
    c.due("his tenths", x.pause(1), 5);
  }

  private static void pauseAlone() {
    c.sentence("If just one starts, he SPEAKS");
    pauseDue("s000;", 0, 5, 0);
    pauseDue("s600;", 0, 0, 0);
    pauseDue("s599;", 0, 46, 0);
    pauseDue("s400;s599;s000;s000;o2;m3;", 1, 46, 0);
  }

  private static void pauseNever() {
    c.sentence("(-4, if it never ends)");
    pauseDue("m0;", -4, -4, -4);
    pauseDue("s400;", -4, -4, -4);
    pauseDue("s000;m0;", -4, -4, -4);
    pauseDue("s000;o0;", -4, -4, -4);
    pauseDue("s000;s000;", -4, -4, -4);
    pauseDue("s600;s600;", -4, -4, -4);
    pauseDue("s599;s599;", -4, -4, -4);
    pauseDue("s000;s000;s000;s000;s000;s000;", -4, -4, -4);
  }

  private static void pauseLongest() {
    c.sentence("there is one ROUND more (40 at most)");
    // A search found no six with more clashes than these, who then part.
    YouAreOnMute x = Checks.told("s009;s180;s506;s170;s591;s562;");
    c.due("clashes", x.pause(2), 32);
    c.due("someone speaks", x.pause(0) >= 0 ? 1 : 0, 1);
  }

  private static void pauseWhat() {
    c.sentence("pause: who SPEAKS (what 0; -4), TENTHS (1; -4), clashes (2; -4). -1.");
    YouAreOnMute none = new YouAreOnMute();
    YouAreOnMute x = Checks.told("s000;s100;");
    int[] wrong = {-1, 3, MIN, MAX};
    for (int what : wrong) {
      c.due("what " + what, x.pause(what), -1);
      c.due("what " + what + " goes ahead of a pause that never ends", none.pause(what), -1);
    }
    int[] due = {0, 12, 1};
    for (int what = 0; what <= 2; what++) {
      c.due("what " + what, x.pause(what), due[what]);
      c.due("what " + what + ", never", none.pause(what), -4);
    }
    c.due("a pause changes nothing", x.count(1), 0);
  }
}
