/** The boundary cases of rules, telling, silence and beginning again: promises 11 to 18. */
public final class RulesEdgesTest {
  private static final Checks c = new Checks("RulesEdgesTest");
  private static final int MIN = Integer.MIN_VALUE;
  private static final int MAX = Integer.MAX_VALUE;

  public static void main(String[] args) {
    rules();
    speakerNever();
    ruleNoise();
    ruleOfNoneAndAll();
    ruleRefused();
    bestRule();
    drowns();
    toldAsIfMuted();
    toldSeconds();
    toldNobody();
    toldRefused();
    quickest();
    quickestNobody();
    silence();
    silenceOfNone();
    objectByTenths();
    objectRange();
    againCut();
    againNoMore();
    againOthers();
    againRange();
    changesNothing();
    c.end();
  }

  private static void ruleDue(String text, int q, int asItIs, int nobodyMuted, int allMuted) {
    YouAreOnMute x = Checks.told(text);
    c.due("rule 0 for " + q + " of " + text, x.rule(q, 0, 0), asItIs);
    c.due("rule 1 for " + q + " of " + text, x.rule(q, 1, 0), nobodyMuted);
    c.due("rule 2 for " + q + " of " + text, x.rule(q, 2, 0), allMuted);
  }

  private static void noiseDue(String text, int q, int asItIs, int nobodyMuted, int allMuted) {
    YouAreOnMute x = Checks.told(text);
    c.due("noise by rule 0 for " + q + " of " + text, x.rule(q, 0, 1), asItIs);
    c.due("noise by rule 1 for " + q + " of " + text, x.rule(q, 1, 1), nobodyMuted);
    c.due("noise by rule 2 for " + q + " of " + text, x.rule(q, 2, 1), allMuted);
  }

  private static void rules() {
    c.sentence("RULE: as it is (0), with nobody MUTED (1), all MUTED (2)");
    // Noise of 9 and 1 beside the second one; he hears 9 alone, or none.
    ruleDue("s000;s000;s390;s200;", 0, 2, 2, 3);
    ruleDue("s000;s000;s390;s200;m3;", 0, 3, 2, 3);
    ruleDue("s000;s000;s390;s200;m2;", 0, 3, 2, 3);
    ruleDue("s000;s000;s390;s390;m2;m3;", 0, 3, 2, 3);
    ruleDue("s000;s000;s390;s390;m2;m3;o3;", 0, 2, 2, 2);
    ruleDue("s000;s000;s400;s390;", 0, 2, 2, 2);
    ruleDue("s000;s000;s000;s390;s390;m4;", 0, 4, 2, 4);
  }

  private static void speakerNever() {
    c.sentence("but the speaker never (MUTED): how many of the others HEAR him (0, if he is not THERE)");
    ruleDue("s000;s000;m0;", 0, 1, 1, 1);
    ruleDue("s400;s000;m0;", 0, 1, 1, 1);
    ruleDue("s000;s000;o0;", 0, 0, 0, 0);
    ruleDue("s000;s000;o0;o0;", 0, 1, 1, 1);
    ruleDue("s000;s000;m0;o0;", 0, 0, 0, 0);
  }

  private static void ruleNoise() {
    c.sentence("NOISE of all others THERE and not MUTED");
    noiseDue("s390;s380;s200;s340;m1;o2;", 0, 4, 12, 0);
    noiseDue("s390;s380;s200;s340;m1;o2;", 1, 13, 13, 0);
    noiseDue("s390;s380;s200;s340;m1;o2;", 2, 13, 21, 0);
    noiseDue("s390;s380;s200;s340;m1;o2;", 3, 9, 17, 0);
    noiseDue("s390;s390;s390;s390;s390;s390;", 5, 45, 45, 0);
    noiseDue("s390;s390;s390;s390;s390;s390;m0;m1;m2;m3;m4;m5;", 5, 0, 45, 0);
    noiseDue("s390;s390;o0;m0;", 1, 0, 0, 0);
    noiseDue("s390;", 0, 0, 0, 0);
  }

  private static void ruleOfNoneAndAll() {
    c.sentence("how many of the others HEAR him (none, all five)");
    ruleDue("s000;", 0, 0, 0, 0);
    ruleDue("s000;s000;s000;s000;s000;s000;", 0, 5, 5, 5);
    ruleDue("s000;s000;s000;s000;s000;s000;", 5, 5, 5, 5);
    ruleDue("s000;s390;s390;s390;s390;s390;", 0, 0, 0, 5);
    ruleDue("s000;s400;s700;s400;s700;s400;", 0, 0, 0, 0);
  }

  private static void ruleRefused() {
    c.sentence("rule: RULE (0 .. 2) for one: how many HEAR him (what 0), NOISE (1). -1.");
    YouAreOnMute x = Checks.told("s000;s200;");
    int[] wrongRules = {-1, 3, MIN, MAX};
    for (int rule : wrongRules) {
      c.due("rule " + rule, x.rule(0, rule, 0), -1);
      c.due("rule " + rule + ", noise", x.rule(0, rule, 1), -1);
    }
    int[] wrongWhats = {-1, 2, MIN, MAX};
    for (int what : wrongWhats) {
      for (int rule = 0; rule <= 2; rule++) {
        c.due("rule " + rule + ", what " + what, x.rule(0, rule, what), -1);
      }
    }
    c.due("no such one", x.rule(2, 0, 0), -1);
    c.due("no such one, noise", x.rule(-1, 0, 1), -1);
    ruleDue("s000;s200;", 0, 1, 1, 1);
  }

  private static void bestRule() {
    c.sentence("BEST RULE for a speaker: by which most HEAR him, of several the least");
    c.due("all the same", Checks.told("s000;s000;").bestRule(0), 0);
    c.due("alone", Checks.told("s000;").bestRule(0), 0);
    c.due("not there", Checks.told("s000;s000;s390;s390;o0;").bestRule(0), 0);
    c.due("all muted alone", Checks.told("s000;s000;s390;s390;").bestRule(0), 2);
    c.due("as it is as good as all muted", Checks.told("s000;s000;s390;s390;m2;").bestRule(0), 0);
    c.due("of the last one", Checks.told("s390;s390;s000;s000;").bestRule(3), 2);
    c.due("nobody muted is never better than both", Checks.told("s000;s000;m1;").bestRule(0), 0);
    c.due("no such one", Checks.told("s000;").bestRule(1), -1);
    c.due("none", new YouAreOnMute().bestRule(0), -1);
  }

  private static void drowns() {
    c.sentence("DROWNS: how many COOKS with a FIGURE f make NOISE 10 or more; -4 (f 0)");
    YouAreOnMute x = new YouAreOnMute();
    int[] due = {-4, 10, 5, 4, 3, 2, 2, 2, 2, 2};
    for (int f = 0; f <= 9; f++) {
      c.due("figure " + f, x.drowns(f), due[f]);
    }
    int[] wrong = {-1, 10, MIN, MAX};
    for (int f : wrong) {
      c.due("figure " + f, x.drowns(f), -1);
    }
    c.due("whoever is there", Checks.told("s390;s390;").drowns(9), 2);
  }

  private static void toldAsIfMuted() {
    c.sentence("TOLD: who tells one that he is MUTED (as if he were)");
    YouAreOnMute x = Checks.told("s200;s000;s000;");
    c.due("not muted", x.told(1, 0), 0);
    x.mutes(1);
    c.due("muted", x.told(1, 0), 0);
    c.due("not he himself", x.told(0, 0), 2);
    x.mutes(1);
    c.due("of several the least", x.told(0, 0), 1);
    c.due("the last of six", Checks.told("s000;s000;s000;s000;s000;s200;").told(0, 0), 5);
    c.due("the first of six", Checks.told("s000;s000;s000;s000;s000;s200;").told(5, 0), 0);
    c.due("told all the same, gone", Checks.told("s000;s000;o0;").told(0, 0), 1);
  }

  private static void toldSeconds() {
    c.sentence("after how many seconds (tenths, cut, and 1)");
    int[][] due = {{Checks.CHAIR, 0, 0, 1}, {Checks.CHAIR, 9, 2, 1}, {Checks.CHAIR, 9, 3, 2},
        {Checks.EAGER, 3, 0, 1}, {Checks.EAGER, 4, 0, 2}, {Checks.PERSON, 0, 0, 2},
        {Checks.PERSON, 0, 9, 2}, {Checks.PERSON, 1, 9, 3}, {Checks.PERSON, 9, 9, 3},
        {Checks.POLITE, 0, 9, 3}, {Checks.POLITE, 0, 0, 3}, {Checks.POLITE, 5, 0, 4},
        {Checks.SHY, 9, 1, 4}, {Checks.SHY, 9, 2, 5}, {Checks.SHY, 9, 9, 5}, {Checks.COOK, 0, 0, 2}};
    for (int[] one : due) {
      YouAreOnMute x = Checks.told("s000;");
      Checks.come(x, one[0], one[1], one[2]);
      c.due("kind " + one[0] + " figure " + one[1] + " lag " + one[2], x.told(0, 1), one[3]);
    }
    c.due("by the first of two", Checks.told("s000;s000;").told(1, 1), 2);
    c.due("by the first of six", Checks.told("s599;s400;s400;s400;s400;s400;").told(5, 1), 5);
  }

  private static void toldNobody() {
    c.sentence("told: who (what 0; -4), seconds (1; -4)");
    String[] texts = {"s000;", "s000;s000;m1;", "s000;s000;o1;", "s000;s400;", "s000;s700;s000;m2;",
        "s000;s000;s000;s000;s000;s000;m1;m2;o3;o4;m5;o5;"};
    for (String text : texts) {
      c.due("nobody in " + text, Checks.told(text).told(0, 0), -4);
      c.due("never in " + text, Checks.told(text).told(0, 1), -4);
    }
  }

  private static void toldRefused() {
    c.sentence("told: -1.");
    YouAreOnMute x = Checks.told("s000;s000;");
    int[] wrong = {-1, 2, MIN, MAX};
    for (int what : wrong) {
      c.due("what " + what, x.told(0, what), -1);
      c.due("what " + what + " ahead of nobody", Checks.told("s000;").told(0, what), -1);
    }
    c.due("no such one", x.told(2, 0), -1);
    c.due("no such one", x.told(-1, 1), -1);
  }

  private static void quickest() {
    c.sentence("QUICKEST: whom to unmute alone (all others MUTED) so that he is told soonest");
    c.due("one who is muted", Checks.told("s000;s000;s200;m2;").quickest(0), 2);
    c.due("one who isn't", Checks.told("s000;s000;s200;").quickest(0), 2);
    c.due("all muted", Checks.told("s000;s090;s000;m0;m1;m2;").quickest(0), 2);
    c.due("not he himself", Checks.told("s600;s000;").quickest(0), 1);
    c.due("the first", Checks.told("s000;s600;").quickest(1), 0);
    c.due("the last of six", Checks.told("s000;s000;s000;s000;s000;s009;").quickest(4), 0);
    c.due("of several the least", Checks.told("s010;s001;s010;s000;o3;").quickest(0), 1);
    c.due("the lag counts", Checks.told("s000;s001;s000;").quickest(0), 2);
    c.due("the figure counts", Checks.told("s000;s010;s000;").quickest(0), 2);
  }

  private static void quickestNobody() {
    c.sentence("quickest: QUICKEST; -4. -1.");
    c.due("alone", Checks.told("s000;").quickest(0), -4);
    c.due("one gone", Checks.told("s000;s000;o1;").quickest(0), -4);
    c.due("one there again", Checks.told("s000;s000;o1;o1;").quickest(0), 1);
    c.due("frozen ones", Checks.told("s000;s400;s700;").quickest(0), -4);
    c.due("46 tenths is below 99", Checks.told("s000;s400;s599;").quickest(0), 2);
    c.due("no such one", Checks.told("s000;").quickest(1), -1);
    c.due("none", new YouAreOnMute().quickest(0), -1);
  }

  private static void silence() {
    c.sentence("SILENCE: .. each THERE with WAITS below 99 .. (WAITS, and 10 more if he is MUTED, and LAG again)");
    String[] texts = {"s600;", "s000;", "s009;", "s609;", "s599;", "s600;m0;", "s599;m0;", "s599;m0;m0;",
        "s000;s009;", "s009;s000;", "s000;m0;s004;", "s000;m0;s007;", "s000;m0;s008;", "s009;o0;s000;"};
    int[] due = {0, 5, 23, 18, 55, 10, 65, 55, 23, 23, 15, 19, 21, 5};
    for (int i = 0; i < texts.length; i++) {
      c.due("silence of " + texts[i], Checks.told(texts[i]).silence(), due[i]);
      int t = due[i];
      c.due("then all could", Checks.told(texts[i]).object(t), Checks.told(texts[i]).count(3));
    }
  }

  private static void silenceOfNone() {
    c.sentence("SILENCE (nobody: the least tenths there are)");
    c.due("no squares", new YouAreOnMute().silence(), 0);
    c.due("frozen ones alone", Checks.told("s499;s799;m0;").silence(), 0);
    c.due("nobody there", Checks.told("s599;s000;o0;o1;").silence(), 0);
    c.due("a frozen one beside", Checks.told("s409;s000;s709;").silence(), 5);
    c.due("all six", Checks.told("s000;s001;s002;s003;s004;s005;").silence(), 15);
  }

  private static void objectByTenths() {
    c.sentence("OBJECT: those (bits) who could by t tenths");
    // They could by 0, 5, 23, 15, never, 55.
    YouAreOnMute x = Checks.told("s600;s000;s009;s000;s400;s599;m3;");
    int[] tenths = {0, 4, 5, 14, 15, 22, 23, 54, 55, 99, 108, 117, 999};
    int[] due = {1, 1, 3, 3, 11, 11, 15, 15, 47, 47, 47, 47, 47};
    for (int i = 0; i < tenths.length; i++) {
      c.due("by " + tenths[i], x.object(tenths[i]), due[i]);
    }
    x.goes(0);
    x.goes(5);
    c.due("not there", x.object(999), 14);
    c.due("no squares", new YouAreOnMute().object(999), 0);
    c.due("all six", Checks.told("s000;".repeat(6)).object(5), 63);
  }

  private static void objectRange() {
    c.sentence("t tenths (0 .. 999)");
    YouAreOnMute x = Checks.told("s600;s000;");
    c.due("0", x.object(0), 1);
    c.due("999", x.object(999), 3);
    int[] wrong = {-1, 1000, MIN, MAX};
    for (int t : wrong) {
      c.due("t " + t, x.object(t), -1);
    }
  }

  private static void againCut() {
    c.sentence("to go on takes half of s, cut");
    YouAreOnMute x = Checks.told("s000;s000;s000;m2;");
    // s against half of s and d.
    c.due("1 against 0 and 0", x.again(0, 1, 0), 0);
    c.due("1 against 0 and 1", x.again(0, 1, 1), 1);
    c.due("2 against 1 and 0", x.again(0, 2, 0), 0);
    c.due("2 against 1 and 1", x.again(0, 2, 1), 1);
    c.due("3 against 1 and 1", x.again(0, 3, 1), 0);
    c.due("3 against 1 and 2", x.again(0, 3, 2), 1);
    c.due("17 against 8 and 8", x.again(0, 17, 8), 0);
    c.due("17 against 8 and 9", x.again(0, 17, 9), 1);
    c.due("18 against 9 and 9", x.again(0, 18, 9), 1);
    c.due("19 against 9 and 9", x.again(0, 19, 9), 0);
    c.due("99 against 49 and 9", x.again(0, 99, 9), 0);
  }

  private static void againNoMore() {
    c.sentence("(s, if none of the others CAN SPEAK) .. 1 again, if that is no more");
    int[] seconds = {1, 2, 50, 99};
    for (int s : seconds) {
      c.due("alone, " + s, Checks.told("s000;").again(0, s, 0), 1);
      c.due("a muted one, " + s, Checks.told("s000;s000;m1;").again(0, s, 9), 1);
      c.due("one gone, " + s, Checks.told("s000;s000;o1;").again(0, s, 0), 1);
      c.due("a frozen one, " + s, Checks.told("s000;s400;").again(0, s, 0), 1);
      c.due("one who can, " + s, Checks.told("s000;s000;").again(0, s, 9), 0);
      c.due("one himself muted, " + s, Checks.told("s000;s000;m0;").again(0, s, 9), 0);
      c.due("one himself gone, " + s, Checks.told("s000;s000;o0;").again(0, s, 9), 0);
    }
  }

  private static void againOthers() {
    c.sentence("and d (0 .. 9) for each of the others THERE who can not");
    // Of one who can and four who can't: 36 more.
    YouAreOnMute x = Checks.told("s000;s000;s000;s400;s700;s000;m2;m5;");
    c.due("72 against 36 and 36", x.again(0, 72, 9), 1);
    c.due("73 against 36 and 36", x.again(0, 73, 9), 0);
    x.goes(5);
    c.due("one gone: 54 against 27 and 27", x.again(0, 54, 9), 1);
    c.due("one gone: 55 against 27 and 27", x.again(0, 55, 9), 0);
    x.mutes(0);
    c.due("one himself is no other: 54", x.again(0, 54, 9), 1);
    c.due("one himself is no other: 55", x.again(0, 55, 9), 0);
    c.due("the first one can, for the last", Checks.told("s000;s000;").again(1, 2, 0), 0);
    c.due("the first one can't, for the last", Checks.told("s000;s000;s000;m0;").again(2, 2, 1), 1);
    c.due("the last one can't, for the first", Checks.told("s000;s000;s000;m2;").again(0, 2, 1), 1);
  }

  private static void againRange() {
    c.sentence("one spoke s seconds (1 .. 99) .. d (0 .. 9). -1.");
    YouAreOnMute x = Checks.told("s000;");
    c.due("1, 0", x.again(0, 1, 0), 1);
    c.due("99, 9", x.again(0, 99, 9), 1);
    int[] wrongSeconds = {0, 100, -1, MIN, MAX};
    for (int s : wrongSeconds) {
      c.due("s " + s, x.again(0, s, 0), -1);
    }
    int[] wrongDelays = {-1, 10, MIN, MAX};
    for (int d : wrongDelays) {
      c.due("d " + d, x.again(0, 1, d), -1);
    }
    c.due("no such one", x.again(1, 1, 0), -1);
    c.due("none", new YouAreOnMute().again(0, 1, 0), -1);
  }

  private static void changesNothing() {
    c.sentence("Of a PAUSE now .. (what is only asked changes nothing)");
    YouAreOnMute x = Checks.told("s003;s140;s319;s209;s400;h1;h0;m2;t012;l1;o3;");
    String before = Checks.all(x);
    for (int q = 0; q < 5; q++) {
      for (int rule = 0; rule <= 2; rule++) {
        x.rule(q, rule, 0);
        x.rule(q, rule, 1);
      }
      x.bestRule(q);
      x.told(q, 0);
      x.told(q, 1);
      x.quickest(q);
      x.again(q, 20, 3);
    }
    x.pause(0);
    x.drowns(3);
    x.silence();
    x.object(50);
    c.same("all", Checks.all(x), before);
    c.due("who is next", x.next(0), 1);
  }
}
