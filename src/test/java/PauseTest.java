/** Promises 10 to 18: pauses and rules. */
public final class PauseTest {
  private static final Checks c = new Checks("PauseTest");

  public static void main(String[] args) {
    pauses();
    longPauses();
    rules();
    bestRules();
    drowns();
    told();
    quickest();
    silence();
    object();
    again();
    c.end();
  }

  private static void pauseDue(String text, int who, int tenths, int clashes) {
    YouAreOnMute x = Checks.told(text);
    c.due("who speaks of " + text, x.pause(0), who);
    c.due("tenths of " + text, x.pause(1), tenths);
    c.due("clashes of " + text, x.pause(2), clashes);
    c.due("what of " + text, x.pause(3), -1);
    c.due("what of " + text, x.pause(-1), -1);
  }

  private static void pauses() {
    pauseDue("m0;", -4, -4, -4);
    pauseDue("s003;", 0, 8, 0);
    pauseDue("s003;m0;", -4, -4, -4);
    pauseDue("s003;o0;", -4, -4, -4);
    pauseDue("s400;s700;", -4, -4, -4);
    pauseDue("s400;s000;", 1, 5, 0);
    pauseDue("s000;s200;", 1, 2, 0);
    pauseDue("s000;s200;m1;", 0, 5, 0);
    pauseDue("s000;s200;o1;", 0, 5, 0);
    // Both at 5; then 7 and 10.
    pauseDue("s000;s100;", 0, 12, 1);
    // 7 is no more than 5 and 2: they clash for ever, both 2 later each time.
    pauseDue("s000;s002;", -4, -4, -4);
    // 8 is more than 5 and the own lag of 2.
    pauseDue("s000;s112;", 0, 5, 0);
    // 7 is no more than 6 and 2; then 12 and 11, and so on.
    pauseDue("s000;s102;o0;s101;", -4, -4, -4);
    // The own lag counts, not that of the first: 7 is more than 6 and 0.
    pauseDue("s120;s001;", 1, 6, 0);
    pauseDue("s120;s101;", 1, 6, 0);
    // The eager one stays at 11, the other starts at 5, 7, 9, 11, each time within 9 of lag.
    pauseDue("s000;s209;", 1, 43, 4);
    // The chair at 0, the other chair at 4 with a lag of 4: for ever.
    pauseDue("s600;s604;", -4, -4, -4);
    // The one with the longer wait stands aside in the first round: yields only who started.
    pauseDue("s000;s000;s190;", 2, 5 + 7 + 9 + 11 + 13 + 14, 5);
    pauseDue("s130;s130;s300;", 2, 5, 0);
  }

  private static void longPauses() {
    YouAreOnMute x = Checks.told("s099;s180;s191;s551;s580;");
    c.due("31 clashes, then one speaks", x.pause(2), 31);
    c.due("the lag keeps who speaks the same when asked again", x.pause(2), 31);
    YouAreOnMute never = Checks.told("s000;s000;s501;");
    c.due("two that never part", never.pause(0), -4);
    c.due("nothing changes by it", never.count(1), 0);
  }

  private static void rules() {
    YouAreOnMute x = Checks.told("s000;s390;s390;s200;m1;");
    c.due("hear 0 as it is: 2 (1), 3 (9), not 1 (10)", x.rule(0, 0, 0), 2);
    c.due("noise as it is", x.rule(0, 0, 1), 10);
    c.due("hear 0 with nobody muted", x.rule(0, 1, 0), 0);
    c.due("noise with nobody muted", x.rule(0, 1, 1), 19);
    c.due("hear 0 with all muted", x.rule(0, 2, 0), 3);
    c.due("noise with all muted", x.rule(0, 2, 1), 0);
    c.due("a muted speaker is heard", x.rule(1, 0, 0), 2);
    c.due("of others than the speaker", x.rule(2, 0, 1), 1);
    x.goes(0);
    c.due("nobody hears who isn't there", x.rule(0, 0, 0), 0);
    c.due("nobody hears who isn't there, all muted", x.rule(0, 2, 0), 0);
    c.due("noise all the same", x.rule(0, 0, 1), 10);
    x.goes(2);
    c.due("who isn't there makes none", x.rule(3, 1, 1), 9);
    c.due("and hears none", x.rule(3, 1, 0), 1);
    c.due("frozen ones don't hear", Checks.told("s000;s400;s000;").rule(0, 2, 0), 1);
    YouAreOnMute cooks = Checks.told("s390;s390;s000;m0;");
    c.due("the first one hears, too", cooks.rule(1, 0, 0), 2);
    c.due("the first one's noise, not muted", cooks.rule(2, 1, 1), 18);
    c.due("9 is borne", cooks.rule(2, 1, 0), 2);
    c.due("10 is not", Checks.told("s390;s200;s000;s000;").rule(3, 0, 0), 2);
    c.due("q -1", x.rule(-1, 0, 0), -1);
    c.due("q 4", x.rule(4, 0, 0), -1);
    c.due("rule -1", x.rule(0, -1, 0), -1);
    c.due("rule 3", x.rule(0, 3, 0), -1);
    c.due("what -1", x.rule(0, 0, -1), -1);
    c.due("what 2", x.rule(0, 0, 2), -1);
  }

  private static void bestRules() {
    YouAreOnMute x = Checks.told("s000;s390;s390;s200;m1;");
    c.due("all muted", x.bestRule(0), 2);
    x.mutes(2);
    c.due("as it is, of several the least", x.bestRule(0), 0);
    x.goes(0);
    c.due("not there", x.bestRule(0), 0);
    c.due("q -1", x.bestRule(-1), -1);
    c.due("q 4", x.bestRule(4), -1);
    c.due("alone", Checks.told("s000;").bestRule(0), 0);
  }

  private static void drowns() {
    YouAreOnMute x = new YouAreOnMute();
    int[] due = {-4, 10, 5, 4, 3, 2, 2, 2, 2, 2};
    for (int f = 0; f <= 9; f++) {
      c.due("cooks of figure " + f, x.drowns(f), due[f]);
    }
    c.due("f -1", x.drowns(-1), -1);
    c.due("f 10", x.drowns(10), -1);
    c.due("f least", x.drowns(Integer.MIN_VALUE), -1);
  }

  private static void told() {
    // Tenths to notice and lag: 13, 28, 7 and 5, 99.
    YouAreOnMute x = Checks.told("s003;s140;s212;s622;s400;");
    c.due("the chair tells", x.told(0, 0), 3);
    c.due("after 5 tenths: 1 second", x.told(0, 1), 1);
    x.mutes(3);
    c.due("the eager one tells", x.told(0, 0), 2);
    x.goes(2);
    c.due("the polite one tells", x.told(0, 0), 1);
    c.due("after 28 tenths", x.told(0, 1), 3);
    c.due("one himself doesn't", x.told(1, 0), 0);
    c.due("after 13 tenths", x.told(1, 1), 2);
    x.mutes(1);
    c.due("nobody", x.told(0, 0), -4);
    c.due("never", x.told(0, 1), -4);
    c.due("to one not there", x.told(2, 0), 0);
    c.due("of several the least", Checks.told("s000;s010;s001;").told(0, 0), 1);
    c.due("the first of several, the least", Checks.told("s000;s090;s000;").told(2, 0), 0);
    c.due("q -1", x.told(-1, 0), -1);
    c.due("q 5", x.told(5, 0), -1);
    c.due("what -1", x.told(0, -1), -1);
    c.due("what 2", x.told(0, 2), -1);
    c.due("20 tenths: 3 seconds", Checks.told("s000;s100;").told(0, 1), 3);
    c.due("19 tenths: 2 seconds", Checks.told("s000;s090;").told(0, 1), 2);
  }

  private static void quickest() {
    YouAreOnMute x = Checks.told("s000;s140;s212;s622;s400;m1;m2;m3;");
    c.due("the muted chair", x.quickest(0), 3);
    x.goes(3);
    c.due("one not there can't", x.quickest(0), 2);
    x.goes(2);
    c.due("polite", x.quickest(0), 1);
    x.goes(1);
    c.due("a frozen one can't", x.quickest(0), -4);
    c.due("who isn't muted can, too", x.quickest(1), 0);
    c.due("alone", Checks.told("s000;").quickest(0), -4);
    c.due("of several the least", Checks.told("s000;s010;s010;").quickest(0), 1);
    c.due("the first of several, the least", Checks.told("s000;s090;s000;").quickest(2), 0);
    c.due("by tenths: 9 and 8", Checks.told("s000;s203;s202;").quickest(0), 2);
    c.due("q -1", x.quickest(-1), -1);
    c.due("q 5", x.quickest(5), -1);
  }

  private static void silence() {
    c.due("nobody", new YouAreOnMute().silence(), 0);
    c.due("frozen ones don't count", Checks.told("s409;s709;").silence(), 0);
    c.due("waits and lag", Checks.told("s003;").silence(), 11);
    c.due("the longest", Checks.told("s003;s190;s201;").silence(), 14);
    c.due("muted: 10 more", Checks.told("s003;s190;s201;m0;").silence(), 21);
    c.due("not there", Checks.told("s003;s190;s201;m0;o0;").silence(), 14);
    c.due("the most there is", Checks.told("s599;m0;").silence(), 65);
  }

  private static void object() {
    YouAreOnMute x = Checks.told("s003;s190;s201;s400;m0;");
    c.due("at 0", x.object(0), 0);
    c.due("at 3", x.object(3), 0);
    c.due("at 4", x.object(4), 4);
    c.due("at 14", x.object(14), 6);
    c.due("at 20", x.object(20), 6);
    c.due("at 21", x.object(21), 7);
    c.due("at 999", x.object(999), 7);
    x.goes(1);
    c.due("not there", x.object(999), 5);
    c.due("t -1", x.object(-1), -1);
    c.due("t 1000", x.object(1000), -1);
    c.due("the chair at 0", Checks.told("s600;").object(0), 1);
  }

  private static void again() {
    YouAreOnMute x = Checks.told("s000;s000;s000;s400;s000;m2;o4;");
    // Going on: half and twice d, for the muted one and the frozen one.
    c.due("20 against 10 and 8", x.again(0, 20, 4), 0);
    c.due("20 against 10 and 10", x.again(0, 20, 5), 1);
    c.due("21 against 10 and 10", x.again(0, 21, 5), 0);
    c.due("21 against 10 and 12", x.again(0, 21, 6), 1);
    c.due("1 against 0", x.again(0, 1, 0), 0);
    x.mutes(1);
    c.due("nobody can speak: 99 against 99", x.again(0, 99, 0), 1);
    c.due("nor with d", x.again(0, 1, 9), 1);
    c.due("q -1", x.again(-1, 1, 0), -1);
    c.due("q 5", x.again(5, 1, 0), -1);
    c.due("s 0", x.again(0, 0, 0), -1);
    c.due("s 100", x.again(0, 100, 0), -1);
    c.due("d -1", x.again(0, 1, -1), -1);
    c.due("d 10", x.again(0, 1, 10), -1);
    c.due("alone", Checks.told("s000;").again(0, 50, 9), 1);
    YouAreOnMute last = Checks.told("s000;s000;s000;m0;");
    c.due("the first one can't speak: 20 against 10 and 9", last.again(2, 20, 9), 0);
    c.due("18 against 9 and 9", last.again(2, 18, 9), 1);
  }
}
