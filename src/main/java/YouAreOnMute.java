/** A meeting on a screen: who waits, speaks, hears, is muted, and who tells him so. */
public final class YouAreOnMute {
  private static final int NO_SUCH = -1;
  private static final int NO_ROOM = -2;
  private static final int NOT_AS_MUST = -3;
  private static final int NONE = -4;
  private static final int NOTHING_HELD = -11;
  private static final int OTHER_KIND = -12;
  private static final int NO_PLACE = -13;
  private static final int SIZE_BELOW_0 = -14;
  private static final int NO_FAILURE = -15;
  private static final int ALLOWED = 0;

  private static final int MOST_SQUARES = 6;
  private static final int MOST_MORE = 6;
  private static final int MOST_ROUNDS = 40;
  private static final int MOST_SECONDS = 99;
  private static final int MOST_HEARD_THROUGH = 9;
  private static final int LATEST_CLOCK = 9999;
  private static final int FROZEN_TENTHS = 99;
  private static final int LAST_KIND = 7;
  private static final int FIRST_SPIRIT = 10;
  private static final int MOST_SPIRIT = 20;
  private static final int LONGEST_CHOICE = 12;
  private static final int NOBODY_TOLD = 9;

  private static final int RULE_AS_IT_IS = 0;
  private static final int RULE_NOBODY_MUTED = 1;
  private static final int RULE_ALL_MUTED = 2;

  private static final int SHELF_COUNT = 8;
  private static final int MOST_ELEMENTS = 100;
  private static final int SORT_BYTES = 0;
  private static final int SORT_SHORTS = 1;
  private static final int SORT_INTS = 2;

  private final House now = new House();
  private final House spare = new House();
  private final House taken = new House();
  private final Pause lull = new Pause();
  private final Shelf[] shelves = new Shelf[SHELF_COUNT];
  private final int[] line = new int[MOST_SQUARES];
  private final Person plain = new Person(0, 0);
  private boolean imageTaken = false;
  private int seed = 0;

  public YouAreOnMute() {
    for (int d = 0; d < SHELF_COUNT; d++) {
      shelves[d] = new Shelf();
    }
  }

  // ---- the house as told

  public int house(int d) {
    int refusal = rowRefusal(d);
    if (refusal != ALLOWED) {
      return refusal;
    }
    Shelf text = shelves[d];
    if (text.sort != SORT_BYTES) {
      return OTHER_KIND;
    }
    int place = formFault(text);
    if (place >= 0) {
      return -1000 - place;
    }
    // Tried on the spare house, so that a fault leaves all as it was.
    spare.takeFrom(now);
    int statements = 0;
    int at = 0;
    while (at < text.size) {
      if (tellStatement(text, at) < 0) {
        return -2000 - at;
      }
      statements++;
      at += 2 + Math.max(0, digitsBehind(text.valueAt(at)));
    }
    now.takeFrom(spare);
    return statements;
  }

  public int square(int q, int what) {
    if (!now.has(q)) {
      return NO_SUCH;
    }
    switch (what) {
      case 0: return now.who[q].kind;
      case 1: return now.who[q].figure;
      case 2: return now.lag[q];
      case 3: return now.muted[q] ? 1 : 0;
      case 4: return now.there[q] ? 1 : 0;
      case 5: return now.handRank(q);
      case 6: return now.spirit[q];
      case 7: return now.waits[q];
      case 8: return now.who[q].yields();
      case 9: return now.who[q].notices();
      case 10: return now.who[q].noise();
      default: return NO_SUCH;
    }
  }

  public int comes(int d, int lag) {
    if (!isShelf(d) || !isDigit(lag)) {
      return NO_SUCH;
    }
    int refusal = personRefusal(d);
    return refusal != ALLOWED ? refusal : now.enter(shelves[d].person, lag);
  }

  public int mutes(int q) {
    return now.has(q) ? now.flipMuted(q) : NO_SUCH;
  }

  public int goes(int q) {
    return now.has(q) ? now.flipThere(q) : NO_SUCH;
  }

  public int hands(int q) {
    return now.has(q) ? now.flipHand(q) : NO_SUCH;
  }

  public int turns(int q, int seconds) {
    return now.has(q) && isSeconds(seconds) ? now.takeTurn(q, seconds) : NO_SUCH;
  }

  public int laughs(int q) {
    return now.has(q) ? now.laugh(q) : NO_SUCH;
  }

  // ---- pauses, rules

  public int pause(int what) {
    if (what < 0 || what > 2) {
      return NO_SUCH;
    }
    holdPause(now);
    if (!lull.ends()) {
      return NONE;
    }
    if (what == 0) {
      return lull.speaker;
    }
    return what == 1 ? lull.tenths : lull.clashes;
  }

  public int rule(int q, int rule, int what) {
    if (!now.has(q) || rule < RULE_AS_IT_IS || rule > RULE_ALL_MUTED || !isOneOfTwo(what)) {
      return NO_SUCH;
    }
    return what == 0 ? now.hearers(q, rule) : now.noiseBut(q, q, rule);
  }

  public int bestRule(int q) {
    if (!now.has(q)) {
      return NO_SUCH;
    }
    int best = RULE_AS_IT_IS;
    for (int rule = RULE_NOBODY_MUTED; rule <= RULE_ALL_MUTED; rule++) {
      if (now.hearers(q, rule) > now.hearers(q, best)) {
        best = rule;
      }
    }
    return best;
  }

  public int drowns(int f) {
    if (!isDigit(f)) {
      return NO_SUCH;
    }
    return f > 0 ? (MOST_HEARD_THROUGH + f) / f : NONE;
  }

  public int told(int q, int what) {
    if (!now.has(q) || !isOneOfTwo(what)) {
      return NO_SUCH;
    }
    int teller = now.tellerOf(q, false);
    return what == 0 || teller < 0 ? teller : now.secondsToTell(teller);
  }

  public int quickest(int q) {
    // Who is muted now could be the one to be unmuted.
    return now.has(q) ? now.tellerOf(q, true) : NO_SUCH;
  }

  public int silence() {
    int least = 0;
    for (int q = 0; q < now.size; q++) {
      if (now.isListening(q)) {
        least = Math.max(least, now.couldBeginBy(q));
      }
    }
    return least;
  }

  public int object(int t) {
    if (t < 0 || t > 999) {
      return NO_SUCH;
    }
    int bits = 0;
    for (int q = 0; q < now.size; q++) {
      if (now.isListening(q) && now.couldBeginBy(q) <= t) {
        bits |= 1 << q;
      }
    }
    return bits;
  }

  public int again(int q, int s, int d) {
    if (!now.has(q) || !isSeconds(s) || !isDigit(d)) {
      return NO_SUCH;
    }
    int able = 0;
    int unable = 0;
    for (int o = 0; o < now.size; o++) {
      if (o != q && now.canSpeak(o)) {
        able++;
      } else if (o != q && now.there[o]) {
        unable++;
      }
    }
    int goingOn = (able > 0 ? s / 2 : s) + d * unable;
    return s <= goingOn ? 1 : 0;
  }

  // ---- hands, games

  public int next(int i) {
    if (i < 0) {
      return NO_SUCH;
    }
    return i < now.up ? now.raised[i] : NONE;
  }

  public int waiting(int what) {
    if (what < 0 || what > 2) {
      return NO_SUCH;
    }
    int up = lineUp();
    if (what > 0) {
      shortestFirst(up);
    }
    if (what == 2) {
      return up > 0 ? line[0] : NONE;
    }
    return waitedTogether(up);
  }

  public int two(int a, int b) {
    if (!now.has(a) || !now.has(b) || a == b) {
      return NO_SUCH;
    }
    int lagA = now.lag[a];
    int lagB = now.lag[b];
    for (int x = 0; x <= LONGEST_CHOICE; x++) {
      for (int y = 0; y <= LONGEST_CHOICE; y++) {
        if (isBestAgainst(x, y, lagA, lagB) && isBestAgainst(y, x, lagB, lagA)) {
          return 100 * x + y;
        }
      }
    }
    return NONE;
  }

  public int chat(int c) {
    if (!isSeconds(c)) {
      return NO_SUCH;
    }
    holdPause(now);
    return !lull.ends() || c * 10 < lull.tenths + 10 * lull.clashes ? 1 : 0;
  }

  public int truly(int d) {
    int refusal = rowRefusal(d);
    if (refusal != ALLOWED) {
      return refusal;
    }
    Shelf row = shelves[d];
    if (row.size > now.size) {
      return NO_PLACE;
    }
    int bits = 0;
    for (int q = 0; q < row.size && q < now.size; q++) {
      if (row.valueAt(q) != row.leastNumber() && now.canHaveAnswered(q, row.valueAt(q))) {
        bits |= 1 << q;
      }
    }
    return bits;
  }

  public int spirits(int what) {
    if (!isOneOfTwo(what)) {
      return NO_SUCH;
    }
    int together = 0;
    int lowest = NONE;
    for (int q = 0; q < now.size; q++) {
      together += now.spirit[q];
      if (now.there[q] && (lowest < 0 || now.spirit[q] < now.spirit[lowest])) {
        lowest = q;
      }
    }
    return what == 0 ? together : lowest;
  }

  public int bears(int g, int what) {
    if (!isDigit(g) || !isOneOfTwo(what)) {
      return NO_SUCH;
    }
    if (what == 1) {
      holdPauseOfMore(1, g);
      return lull.ends() ? lull.tenths : NONE;
    }
    for (int more = 0; more <= MOST_MORE; more++) {
      holdPauseOfMore(more, g);
      if (!lull.ends()) {
        return more;
      }
    }
    return NONE;
  }

  // ---- records

  public int cooked(int d, int f, int what) {
    if (!isShelf(d) || !isDigit(f) || !isOneOfTwo(what)) {
      return NO_SUCH;
    }
    int refusal = recordRefusal(d);
    if (refusal != ALLOWED) {
      return refusal;
    }
    Shelf record = shelves[d];
    int many = 0;
    int least = NONE;
    for (int q = 0; q < now.size; q++) {
      if (fits(record, record.size / 2, q, f)) {
        many++;
        least = least < 0 ? q : least;
      }
    }
    return what == 0 ? many : least;
  }

  public int forged(int d, int f) {
    if (!isShelf(d) || !isDigit(f)) {
      return NO_SUCH;
    }
    int refusal = recordRefusal(d);
    if (refusal != ALLOWED) {
      return refusal;
    }
    Shelf record = shelves[d];
    for (int pair = 0; pair < record.size / 2; pair++) {
      if (!somebodyFits(record, pair + 1, f)) {
        return pair;
      }
    }
    return NONE;
  }

  public int judge(int d) {
    int refusal = rowRefusal(d);
    if (refusal != ALLOWED) {
      return refusal;
    }
    Shelf row = shelves[d];
    spare.takeFrom(now);
    for (int i = 0; i < row.size; i++) {
      holdPause(spare);
      int spoke = lull.ends() ? lull.speaker : NOBODY_TOLD;
      int said = row.valueAt(i);
      if (said != row.leastNumber() && said != spoke) {
        return i;
      }
      if (spare.has(spoke)) {
        spare.muted[spoke] = true;
      }
    }
    return NONE;
  }

  public int meetings(int n, int z, int what) {
    if (n < 1 || n > 20 || !isOneOfTwo(what)) {
      return NO_SUCH;
    }
    seed = z;
    spare.takeFrom(now);
    int ended = 0;
    int tenths = 0;
    for (int meeting = 0; meeting < n; meeting++) {
      for (int q = 0; q < spare.size; q++) {
        spare.setLag(q, draw(10));
        spare.muted[q] = draw(2) == 1;
      }
      holdPause(spare);
      if (lull.ends()) {
        ended++;
        tenths += lull.tenths;
      }
    }
    return what == 0 ? ended : tenths;
  }

  // ---- the image, what is told

  public int image() {
    taken.takeFrom(now);
    imageTaken = true;
    return now.clock;
  }

  public int restore() {
    if (!imageTaken) {
      return NOT_AS_MUST;
    }
    now.takeFrom(taken);
    return now.clock;
  }

  public int count(int what) {
    switch (what) {
      case 0: return now.size;
      case 1: return now.clock;
      case 2: return now.mutedBits();
      case 3: return now.thereBits();
      case 4: return now.up;
      case 5: return now.speakerBits();
      case 6: return now.allLags();
      case 7: return now.noiseBut(NONE, NONE, RULE_AS_IT_IS);
      default: return NO_SUCH;
    }
  }

  // ---- shelves

  public int keep(int d, int what, int k, int figure) {
    if (!isShelf(d) || !isOneOfTwo(what)) {
      return NO_SUCH;
    }
    if (what == 0) {
      shelves[d].hold(null);
      return 0;
    }
    if (k < 0 || k > LAST_KIND || !isDigit(figure)) {
      return NO_SUCH;
    }
    shelves[d].hold(personOf(k, figure));
    return 0;
  }

  public int row(int d, int sort, int n) {
    if (!isShelf(d) || sort < SORT_BYTES || sort > SORT_INTS || n > MOST_ELEMENTS) {
      return NO_SUCH;
    }
    if (n < 0) {
      return SIZE_BELOW_0;
    }
    shelves[d].holdRow(sort, n);
    return 0;
  }

  public int put(int d, int i, int v) {
    int refusal = rowRefusal(d);
    if (refusal != ALLOWED) {
      return refusal;
    }
    if (!shelves[d].hasPlace(i)) {
      return NO_PLACE;
    }
    shelves[d].setValue(i, v);
    return 0;
  }

  public long element(int d, int i) throws IllegalArgumentException, IllegalStateException {
    if (!isShelf(d)) {
      throw new IllegalArgumentException("no such shelf");
    }
    if (!shelves[d].holdsRow || !shelves[d].hasPlace(i)) {
      throw new IllegalStateException("no row, or no such place");
    }
    return shelves[d].valueAt(i);
  }

  public int copy(int d, int i, int e, int j, int n) {
    if (!isShelf(d) || !isShelf(e)) {
      return NO_SUCH;
    }
    Shelf from = shelves[d];
    Shelf to = shelves[e];
    if (from.holdsNothing() || to.holdsNothing()) {
      return NOTHING_HELD;
    }
    if (!from.holdsRow || !to.holdsRow || from.sort != to.sort) {
      return OTHER_KIND;
    }
    if (!from.hasPlaces(i, n) || !to.hasPlaces(j, n)) {
      return NO_PLACE;
    }
    System.arraycopy(from.elements, i, to.elements, j, n);
    return n;
  }

  public int cost(int d) {
    int refusal = personRefusal(d);
    return refusal != ALLOWED ? refusal : shelves[d].person.price();
  }

  public int toss(int d) {
    int refusal = personRefusal(d);
    return refusal != ALLOWED ? refusal : caughtFrom(shelves[d].person);
  }

  // ---- what the shelves hold

  private static boolean isShelf(int d) {
    return d >= 0 && d < SHELF_COUNT;
  }

  private static boolean isDigit(int number) {
    return number >= 0 && number <= 9;
  }

  private static boolean isSeconds(int seconds) {
    return seconds >= 1 && seconds <= MOST_SECONDS;
  }

  private static boolean isOneOfTwo(int what) {
    return what == 0 || what == 1;
  }

  private int rowRefusal(int d) {
    if (!isShelf(d)) {
      return NO_SUCH;
    }
    if (shelves[d].holdsNothing()) {
      return NOTHING_HELD;
    }
    return shelves[d].holdsRow ? ALLOWED : OTHER_KIND;
  }

  private int personRefusal(int d) {
    if (!isShelf(d)) {
      return NO_SUCH;
    }
    if (shelves[d].holdsNothing()) {
      return NOTHING_HELD;
    }
    return shelves[d].person != null ? ALLOWED : OTHER_KIND;
  }

  private static Person personOf(int kind, int figure) {
    switch (kind) {
      case 1: return new Polite(kind, figure);
      case 2: return new Eager(kind, figure);
      case 3: return new Cook(kind, figure);
      case 4: return new Frozen(kind, figure);
      case 5: return new Shy(kind, figure);
      case 6: return new Chair(kind, figure);
      case 7: return new Ghost(kind, figure);
      default: return new Person(kind, figure);
    }
  }

  // Which exception comes tells what kind of failure it is.
  private static int caughtFrom(Person one) {
    try {
      one.fail();
    } catch (UnsupportedOperationException shy) {
      return 200 + one.price();
    } catch (IllegalArgumentException polite) {
      return 100 + one.figure;
    } catch (IllegalStateException other) {
      return one.figure;
    }
    return NO_FAILURE;
  }

  // ---- the text of a house

  private static int digitsBehind(int letter) {
    switch (letter) {
      case 's':
      case 't': return 3;
      case 'm':
      case 'o':
      case 'h':
      case 'l': return 1;
      default: return NONE;
    }
  }

  /** The place of the first byte that no house can have, or -4. */
  private static int formFault(Shelf text) {
    if (text.size == 0) {
      return 0;
    }
    int at = 0;
    while (at < text.size) {
      int digits = digitsBehind(text.valueAt(at));
      if (digits < 0) {
        return at;
      }
      at++;
      for (int k = 0; k < digits; k++) {
        if (!text.hasPlace(at) || !isDigit(text.digitAt(at))) {
          return at;
        }
        at++;
      }
      if (!text.hasPlace(at) || text.valueAt(at) != ';') {
        return at;
      }
      at++;
    }
    return NONE;
  }

  private int tellStatement(Shelf text, int at) {
    int letter = text.valueAt(at);
    int q = text.digitAt(at + 1);
    if (letter == 's') {
      return q > LAST_KIND ? NO_SUCH
          : spare.enter(personOf(q, text.digitAt(at + 2)), text.digitAt(at + 3));
    }
    if (!spare.has(q)) {
      return NO_SUCH;
    }
    switch (letter) {
      case 'm': return spare.flipMuted(q);
      case 'o': return spare.flipThere(q);
      case 'h': return spare.flipHand(q);
      case 'l': return spare.laugh(q);
      default: break;
    }
    int seconds = 10 * text.digitAt(at + 2) + text.digitAt(at + 3);
    return isSeconds(seconds) ? spare.takeTurn(q, seconds) : NO_SUCH;
  }

  // ---- pauses of the house as it is, or as it could be

  private void holdPause(House of) {
    lull.begin();
    of.joinPause(lull);
    lull.run();
  }

  private void holdPauseOfMore(int more, int lag) {
    lull.begin();
    now.joinPause(lull);
    for (int k = 0; k < more; k++) {
      lull.join(MOST_SQUARES + k, plain.waits(lag), plain.yields(), lag);
    }
    lull.run();
  }

  private int draw(int below) {
    seed = seed * 1103515245 + 12345;
    int high = (seed & 0x7fffffff) / 65536;
    return below > 0 ? high % below : 0;
  }

  // ---- waiting with a hand up

  private int lineUp() {
    for (int i = 0; i < now.up; i++) {
      line[i] = now.raised[i];
    }
    return now.up;
  }

  // Those who take the same stay in the order of their hands.
  private void shortestFirst(int up) {
    for (int i = 1; i < up; i++) {
      int moved = line[i];
      int at = i;
      while (at > 0 && now.takes(line[at - 1]) > now.takes(moved)) {
        line[at] = line[at - 1];
        at--;
      }
      line[at] = moved;
    }
  }

  private int waitedTogether(int up) {
    int together = 0;
    int gone = 0;
    for (int i = 0; i < up; i++) {
      together += gone;
      gone += now.takes(line[i]);
    }
    return together;
  }

  // ---- two who choose how long to wait

  private static int gain(int own, int other, int ownLag, int otherLag) {
    if (other - own > otherLag) {
      return 20 - own;
    }
    return own - other > ownLag ? 5 : 0;
  }

  private static boolean isBestAgainst(int own, int other, int ownLag, int otherLag) {
    int got = gain(own, other, ownLag, otherLag);
    for (int choice = 0; choice <= LONGEST_CHOICE; choice++) {
      if (gain(choice, other, ownLag, otherLag) > got) {
        return false;
      }
    }
    return true;
  }

  // ---- records of noise

  private int recordRefusal(int d) {
    int refusal = rowRefusal(d);
    if (refusal != ALLOWED) {
      return refusal;
    }
    Shelf record = shelves[d];
    if (record.size % 2 != 0) {
      return NO_PLACE;
    }
    for (int i = 0; i + 1 < record.size; i += 2) {
      int muted = record.valueAt(i);
      if (!now.has(muted) && muted != NOBODY_TOLD || !isDigit(record.valueAt(i + 1))) {
        return NO_PLACE;
      }
    }
    return ALLOWED;
  }

  private static boolean fits(Shelf record, int pairs, int q, int f) {
    for (int pair = 0; pair < pairs; pair++) {
      int due = record.valueAt(2 * pair) == q ? 0 : f;
      if (record.valueAt(2 * pair + 1) != due) {
        return false;
      }
    }
    return true;
  }

  private boolean somebodyFits(Shelf record, int pairs, int f) {
    for (int q = 0; q < now.size; q++) {
      if (fits(record, pairs, q, f)) {
        return true;
      }
    }
    return false;
  }

  // ---- kinds of people

  private static class Person {
    final int kind;
    final int figure;

    Person(int kind, int figure) {
      this.kind = kind;
      this.figure = figure;
    }

    int waits(int lag) {
      return 5 + lag;
    }

    int yields() {
      return 2;
    }

    int notices() {
      return 10 + figure;
    }

    int noise() {
      return 0;
    }

    int price() {
      return 4;
    }

    void fail() {
      if (figure > 0) {
        throw new IllegalStateException("failed");
      }
    }
  }

  private static class Polite extends Person {
    Polite(int kind, int figure) {
      super(kind, figure);
    }

    int waits(int lag) {
      return super.waits(lag) + figure;
    }

    int yields() {
      return super.yields() + 3;
    }

    int notices() {
      return 2 * super.notices();
    }

    int price() {
      return super.price() + figure;
    }

    void fail() {
      if (figure > 0) {
        throw new IllegalArgumentException("failed politely");
      }
    }
  }

  private static class Eager extends Person {
    Eager(int kind, int figure) {
      super(kind, figure);
    }

    int waits(int lag) {
      return super.waits(lag) - 3;
    }

    int yields() {
      return 0;
    }

    int notices() {
      return super.notices() - 4;
    }

    int noise() {
      return 1;
    }

    int price() {
      return super.price() - 2;
    }
  }

  private static final class Cook extends Person {
    Cook(int kind, int figure) {
      super(kind, figure);
    }

    int noise() {
      return figure;
    }

    int price() {
      return super.price() + 7;
    }
  }

  private static class Frozen extends Person {
    Frozen(int kind, int figure) {
      super(kind, figure);
    }

    int waits(int lag) {
      return FROZEN_TENTHS;
    }

    int notices() {
      return FROZEN_TENTHS;
    }

    int price() {
      return super.price() / 2;
    }

    void fail() {
      // Who is frozen can't even fail.
    }
  }

  private static final class Shy extends Polite {
    Shy(int kind, int figure) {
      super(kind, figure);
    }

    int waits(int lag) {
      return 2 * super.waits(lag);
    }

    int yields() {
      return 2 * super.yields();
    }

    int noise() {
      return 0;
    }

    int price() {
      return 2 * super.price();
    }

    void fail() {
      if (figure > 0) {
        throw new UnsupportedOperationException("failed shyly");
      }
    }
  }

  private static final class Chair extends Eager {
    Chair(int kind, int figure) {
      super(kind, figure);
    }

    int waits(int lag) {
      return super.waits(lag) - 2;
    }

    int notices() {
      return super.notices() / 2;
    }

    int price() {
      return super.price() + figure;
    }
  }

  private static final class Ghost extends Frozen {
    Ghost(int kind, int figure) {
      super(kind, figure);
    }

    int price() {
      return super.price() + 1;
    }
  }

  /** All that an image keeps: the squares, the hands and the clock. */
  private static final class House {
    final Person[] who = new Person[MOST_SQUARES];
    final int[] lag = new int[MOST_SQUARES];
    final int[] waits = new int[MOST_SQUARES];
    final int[] telling = new int[MOST_SQUARES];
    final boolean[] muted = new boolean[MOST_SQUARES];
    final boolean[] there = new boolean[MOST_SQUARES];
    final int[] spirit = new int[MOST_SQUARES];
    final int[] raised = new int[MOST_SQUARES];
    int size = 0;
    int up = 0;
    int clock = 0;

    void takeFrom(House other) {
      for (int q = 0; q < MOST_SQUARES; q++) {
        who[q] = other.who[q];
        lag[q] = other.lag[q];
        waits[q] = other.waits[q];
        telling[q] = other.telling[q];
        muted[q] = other.muted[q];
        there[q] = other.there[q];
        spirit[q] = other.spirit[q];
        raised[q] = other.raised[q];
      }
      size = other.size;
      up = other.up;
      clock = other.clock;
    }

    boolean has(int q) {
      return q >= 0 && q < size;
    }

    int enter(Person one, int ownLag) {
      if (size >= MOST_SQUARES) {
        return NO_ROOM;
      }
      who[size] = one;
      setLag(size, ownLag);
      muted[size] = false;
      there[size] = true;
      spirit[size] = FIRST_SPIRIT;
      size++;
      return size - 1;
    }

    void setLag(int q, int ownLag) {
      lag[q] = ownLag;
      waits[q] = who[q].waits(ownLag);
      telling[q] = who[q].notices() + ownLag;
    }

    int flipMuted(int q) {
      muted[q] = !muted[q];
      return muted[q] ? 1 : 0;
    }

    int flipThere(int q) {
      there[q] = !there[q];
      if (!there[q]) {
        lowerHand(q);
      }
      return there[q] ? 1 : 0;
    }

    int flipHand(int q) {
      if (!there[q]) {
        return NOT_AS_MUST;
      }
      if (handRank(q) > 0) {
        lowerHand(q);
      } else if (up < MOST_SQUARES) {
        raised[up] = q;
        up++;
      }
      return up;
    }

    int takeTurn(int q, int seconds) {
      if (!there[q]) {
        return NOT_AS_MUST;
      }
      int teller = muted[q] ? tellerOf(q, false) : NONE;
      int passing = seconds + (teller >= 0 ? secondsToTell(teller) : 0);
      if (clock + passing > LATEST_CLOCK) {
        return NOT_AS_MUST;
      }
      clock += passing;
      lowerHand(q);
      if (muted[q] && teller < 0) {
        return 0;
      }
      muted[q] = false;
      return hearers(q, RULE_AS_IT_IS);
    }

    int laugh(int q) {
      if (!there[q]) {
        return NOT_AS_MUST;
      }
      int heard = 0;
      if (canSpeak(q)) {
        for (int h = 0; h < size; h++) {
          if (h != q && hears(h, q, RULE_AS_IT_IS)) {
            heard++;
            spirit[h] = Math.min(MOST_SPIRIT, spirit[h] + 2);
          }
        }
      }
      spirit[q] = heard > 0 ? Math.min(MOST_SPIRIT, spirit[q] + 1) : Math.max(0, spirit[q] - 3);
      return heard;
    }

    int handRank(int q) {
      for (int i = 0; i < up; i++) {
        if (raised[i] == q) {
          return i + 1;
        }
      }
      return 0;
    }

    void lowerHand(int q) {
      int rank = handRank(q);
      if (rank == 0) {
        return;
      }
      for (int i = rank; i < up; i++) {
        raised[i - 1] = raised[i];
      }
      up--;
    }

    /** There, and not as good as frozen. */
    boolean isListening(int q) {
      return there[q] && waits[q] < FROZEN_TENTHS;
    }

    boolean canSpeak(int q) {
      return isListening(q) && !muted[q];
    }

    boolean isMutedBy(int rule, int q) {
      return rule == RULE_ALL_MUTED || rule == RULE_AS_IT_IS && muted[q];
    }

    int noiseBut(int one, int other, int rule) {
      int together = 0;
      for (int q = 0; q < size; q++) {
        if (q != one && q != other && there[q] && !isMutedBy(rule, q)) {
          together += who[q].noise();
        }
      }
      return together;
    }

    boolean hears(int hearer, int speaker, int rule) {
      return isListening(hearer) && noiseBut(hearer, speaker, rule) <= MOST_HEARD_THROUGH;
    }

    int hearers(int speaker, int rule) {
      int many = 0;
      for (int q = 0; there[speaker] && q < size; q++) {
        if (q != speaker && hears(q, speaker, rule)) {
          many++;
        }
      }
      return many;
    }

    int secondsToTell(int q) {
      return telling[q] / 10 + 1;
    }

    int tellerOf(int q, boolean orMuted) {
      int first = NONE;
      for (int o = 0; o < size; o++) {
        if (o != q && isListening(o) && (orMuted || !muted[o])
            && (first < 0 || telling[o] < telling[first])) {
          first = o;
        }
      }
      return first;
    }

    int couldBeginBy(int q) {
      return waits[q] + (muted[q] ? 10 : 0) + lag[q];
    }

    boolean canHaveAnswered(int q, int tenths) {
      int soonest = waits[q];
      return tenths >= soonest && tenths <= soonest + telling[q];
    }

    int takes(int q) {
      return waits[q] + 10 * who[q].figure;
    }

    int mutedBits() {
      int bits = 0;
      for (int q = 0; q < size; q++) {
        bits |= muted[q] ? 1 << q : 0;
      }
      return bits;
    }

    int thereBits() {
      int bits = 0;
      for (int q = 0; q < size; q++) {
        bits |= there[q] ? 1 << q : 0;
      }
      return bits;
    }

    int speakerBits() {
      int bits = 0;
      for (int q = 0; q < size; q++) {
        bits |= canSpeak(q) ? 1 << q : 0;
      }
      return bits;
    }

    int allLags() {
      int together = 0;
      for (int q = 0; q < size; q++) {
        together += lag[q];
      }
      return together;
    }

    void joinPause(Pause lull) {
      for (int q = 0; q < size; q++) {
        if (canSpeak(q)) {
          lull.join(q, waits[q], who[q].yields(), lag[q]);
        }
      }
    }
  }

  /** One pause: those who would start join it, then it runs until one speaks alone. */
  private static final class Pause {
    private final int[] number = new int[MOST_SQUARES + MOST_MORE];
    private final int[] start = new int[MOST_SQUARES + MOST_MORE];
    private final int[] yielding = new int[MOST_SQUARES + MOST_MORE];
    private final int[] lag = new int[MOST_SQUARES + MOST_MORE];
    private int size = 0;
    int speaker = NONE;
    int tenths = 0;
    int clashes = 0;

    void begin() {
      size = 0;
      speaker = NONE;
      tenths = 0;
      clashes = 0;
    }

    void join(int as, int waits, int yields, int ownLag) {
      if (size < MOST_SQUARES + MOST_MORE) {
        number[size] = as;
        start[size] = waits;
        yielding[size] = yields;
        lag[size] = ownLag;
        size++;
      }
    }

    boolean ends() {
      return speaker >= 0;
    }

    void run() {
      for (int round = 0; size > 0 && !ends() && round < MOST_ROUNDS; round++) {
        int first = firstStart();
        tenths += first;
        if (starters(first) == 1) {
          speaker = number[lastStarter(first)];
        } else {
          clashes++;
          yieldAll(first);
        }
      }
    }

    private int firstStart() {
      int first = start[0];
      for (int i = 1; i < size; i++) {
        first = Math.min(first, start[i]);
      }
      return first;
    }

    // Who hasn't yet heard the first one, for his lag, starts too.
    private boolean isStarting(int i, int first) {
      return start[i] <= first + lag[i];
    }

    private int starters(int first) {
      int many = 0;
      for (int i = 0; i < size; i++) {
        many += isStarting(i, first) ? 1 : 0;
      }
      return many;
    }

    private int lastStarter(int first) {
      int last = 0;
      for (int i = 0; i < size; i++) {
        last = isStarting(i, first) ? i : last;
      }
      return last;
    }

    private void yieldAll(int first) {
      for (int i = 0; i < size; i++) {
        start[i] += isStarting(i, first) ? yielding[i] : 0;
      }
    }
  }

  /** Holds nothing, a person, or a row; the row's places are made once. */
  private static final class Shelf {
    final int[] elements = new int[MOST_ELEMENTS];
    Person person = null;
    boolean holdsRow = false;
    int sort = SORT_BYTES;
    int size = 0;

    boolean holdsNothing() {
      return person == null && !holdsRow;
    }

    /** A person, or null for nothing. */
    void hold(Person one) {
      person = one;
      holdsRow = false;
      size = 0;
    }

    void holdRow(int newSort, int newSize) {
      person = null;
      holdsRow = true;
      sort = newSort;
      size = newSize;
      for (int i = 0; i < MOST_ELEMENTS; i++) {
        elements[i] = 0;
      }
    }

    boolean hasPlace(int i) {
      return i >= 0 && i < size;
    }

    // Said by a difference, as i + n could wrap around.
    boolean hasPlaces(int i, int n) {
      return i >= 0 && n >= 0 && i <= size && n <= size - i;
    }

    int valueAt(int i) {
      return hasPlace(i) ? elements[i] : 0;
    }

    int digitAt(int i) {
      return valueAt(i) - '0';
    }

    void setValue(int i, int v) {
      if (hasPlace(i)) {
        elements[i] = kept(v);
      }
    }

    private int kept(int v) {
      if (sort == SORT_BYTES) {
        return (byte) v;
      }
      return sort == SORT_SHORTS ? (short) v : v;
    }

    int leastNumber() {
      if (sort == SORT_BYTES) {
        return -128;
      }
      return sort == SORT_SHORTS ? -32768 : -2147483648;
    }
  }
}
