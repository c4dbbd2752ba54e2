import java.util.ArrayList;
import java.util.List;

/**
 * The document written once more, from its lines alone and by other ways than the class goes (tables
 * in place of kinds that build on one another, all orders tried, whole houses copied), so that the
 * two can be held against each other.
 */
final class SecondWriting {
  private static final int NEVER = -4;

  private static final class One {
    int kind;
    int figure;
    int lag;
    boolean muted;
    boolean there = true;
    int spirit = 10;

    One(int kind, int figure, int lag) {
      this.kind = kind;
      this.figure = figure;
      this.lag = lag;
    }

    One again() {
      One one = new One(kind, figure, lag);
      one.muted = muted;
      one.there = there;
      one.spirit = spirit;
      return one;
    }

    int waits() {
      int[] table = {5 + lag, 5 + lag + figure, 2 + lag, 5 + lag, 99, 10 + 2 * lag + 2 * figure, lag, 99};
      return table[kind];
    }

    int yields() {
      return new int[] {2, 5, 0, 2, 2, 10, 0, 2}[kind];
    }

    int notices() {
      int[] table = {10 + figure, 20 + 2 * figure, 6 + figure, 10 + figure, 99, 20 + 2 * figure,
          (6 + figure) / 2, 99};
      return table[kind];
    }

    int noise() {
      return new int[] {0, 0, 1, figure, 0, 0, 1, 0}[kind];
    }

    int tells() {
      return notices() + lag;
    }

    boolean awake() {
      return there && waits() < 99;
    }

    boolean canSpeak() {
      return awake() && !muted;
    }
  }

  /** All that an image keeps. */
  private static final class Room {
    final List<One> ones = new ArrayList<>();
    final List<One> up = new ArrayList<>();
    int clock;

    Room again() {
      Room room = new Room();
      for (One one : ones) {
        room.ones.add(one.again());
      }
      for (One one : up) {
        room.up.add(room.ones.get(ones.indexOf(one)));
      }
      room.clock = clock;
      return room;
    }

    boolean has(int q) {
      return 0 <= q && q < ones.size();
    }

    int noiseAround(One hearer, One speaker) {
      return ones.stream().filter(o -> o != hearer && o != speaker && o.there && !o.muted)
          .mapToInt(One::noise).sum();
    }

    List<One> hearersOf(One speaker) {
      List<One> hearers = new ArrayList<>();
      for (One one : ones) {
        if (one != speaker && one.awake() && noiseAround(one, speaker) < 10) {
          hearers.add(one);
        }
      }
      return hearers;
    }

    One tellerOf(One muted) {
      return ones.stream().filter(o -> o != muted && o.canSpeak())
          .reduce(null, (best, o) -> best == null || o.tells() < best.tells() ? o : best);
    }

    int turn(int q, int seconds) {
      if (!ones.get(q).there) {
        return -3;
      }
      One one = ones.get(q);
      One teller = one.muted ? tellerOf(one) : null;
      int told = teller == null ? 0 : 1 + teller.tells() / 10;
      if (clock + told + seconds >= 10000) {
        return -3;
      }
      clock = clock + told + seconds;
      up.remove(one);
      if (teller != null) {
        one.muted = false;
      }
      return one.muted ? 0 : hearersOf(one).size();
    }

    int laugh(int q) {
      One one = ones.get(q);
      if (!one.there) {
        return -3;
      }
      List<One> heard = one.canSpeak() ? hearersOf(one) : new ArrayList<>();
      for (One o : heard) {
        o.spirit = o.spirit >= 18 ? 20 : o.spirit + 2;
      }
      if (heard.isEmpty()) {
        one.spirit = one.spirit <= 3 ? 0 : one.spirit - 3;
      } else {
        one.spirit = one.spirit == 20 ? 20 : one.spirit + 1;
      }
      return heard.size();
    }

    int mute(int q) {
      ones.get(q).muted ^= true;
      return ones.get(q).muted ? 1 : 0;
    }

    int go(int q) {
      ones.get(q).there ^= true;
      up.removeIf(o -> !o.there);
      return ones.get(q).there ? 1 : 0;
    }

    int hand(int q) {
      One one = ones.get(q);
      if (!one.there) {
        return -3;
      }
      if (!up.remove(one)) {
        up.add(one);
      }
      return up.size();
    }

    int come(int kind, int figure, int lag) {
      if (ones.size() == 6) {
        return -2;
      }
      ones.add(new One(kind, figure, lag));
      return ones.size() - 1;
    }

    /** Who speaks, tenths, clashes; null, if it never ends. */
    int[] pause() {
      int[] rounds = new int[ones.size()];
      int tenths = 0;
      for (int round = 1; round <= 40; round++) {
        int first = Integer.MAX_VALUE;
        for (int q = 0; q < ones.size(); q++) {
          if (ones.get(q).canSpeak()) {
            first = Math.min(first, startOf(q, rounds));
          }
        }
        List<Integer> start = new ArrayList<>();
        for (int q = 0; q < ones.size(); q++) {
          if (ones.get(q).canSpeak() && startOf(q, rounds) - ones.get(q).lag <= first) {
            start.add(q);
          }
        }
        if (start.isEmpty()) {
          return null;
        }
        tenths += first;
        if (start.size() == 1) {
          return new int[] {start.get(0), tenths, round - 1};
        }
        start.forEach(q -> rounds[q]++);
      }
      return null;
    }

    private int startOf(int q, int[] rounds) {
      return ones.get(q).waits() + rounds[q] * ones.get(q).yields();
    }
  }

  private static final class Keeping {
    boolean person;
    int kind;
    int figure;
    int sort;
    long[] row;

    boolean nothing() {
      return !person && row == null;
    }

    boolean skipped(int i) {
      return row[i] == new long[] {-128, -32768, -2147483648L}[sort];
    }
  }

  private Room room = new Room();
  private Room image;
  private final Keeping[] shelves = new Keeping[8];

  SecondWriting() {
    for (int d = 0; d < 8; d++) {
      shelves[d] = new Keeping();
    }
  }

  private static boolean in(int number, int least, int most) {
    return least <= number && number <= most;
  }

  private int noRow(int d) {
    if (!in(d, 0, 7)) {
      return -1;
    }
    return shelves[d].nothing() ? -11 : shelves[d].person ? -12 : 0;
  }

  private int noPerson(int d) {
    if (!in(d, 0, 7)) {
      return -1;
    }
    return shelves[d].nothing() ? -11 : shelves[d].person ? 0 : -12;
  }

  private static int bits(List<One> ones, java.util.function.Predicate<One> which) {
    int bits = 0;
    for (int q = 0; q < ones.size(); q++) {
      bits += which.test(ones.get(q)) ? 1 << q : 0;
    }
    return bits;
  }

  // ---- the house as told

  public int house(int d) {
    if (noRow(d) != 0) {
      return noRow(d);
    }
    if (shelves[d].sort != 0) {
      return -12;
    }
    StringBuilder text = new StringBuilder();
    for (long value : shelves[d].row) {
      text.append((char) (value & 255));
    }
    // The text goes on with what the pattern allows; the longest part of it that does is kind 1's place.
    int place = 0;
    while (place < text.length() && goesOn(text.substring(0, place + 1))) {
      place++;
    }
    if (place < text.length() || !text.toString().endsWith(";")) {
      return -1000 - place;
    }
    Room tried = room.again();
    int many = 0;
    int at = 0;
    for (String statement : text.toString().split(";")) {
      if (!told(tried, statement)) {
        return -2000 - at;
      }
      many++;
      at += statement.length() + 1;
    }
    room = tried;
    return many;
  }

  private static boolean goesOn(String part) {
    return part.matches("(([st][0-9]{3}|[mohl][0-9]);)*([st][0-9]{0,3}|[mohl][0-9]?)?");
  }

  private static boolean told(Room tried, String statement) {
    int q = statement.charAt(1) - '0';
    if (statement.charAt(0) == 's') {
      return q < 8 && tried.come(q, statement.charAt(2) - '0', statement.charAt(3) - '0') >= 0;
    }
    if (!tried.has(q)) {
      return false;
    }
    switch (statement.charAt(0)) {
      case 'm': return tried.mute(q) >= 0;
      case 'o': return tried.go(q) >= 0;
      case 'h': return tried.hand(q) >= 0;
      case 'l': return tried.laugh(q) >= 0;
      default:
        int seconds = Integer.parseInt(statement.substring(2));
        return seconds > 0 && tried.turn(q, seconds) >= 0;
    }
  }

  public int square(int q, int what) {
    if (!room.has(q) || !in(what, 0, 10)) {
      return -1;
    }
    One one = room.ones.get(q);
    int[] all = {one.kind, one.figure, one.lag, one.muted ? 1 : 0, one.there ? 1 : 0,
        room.up.indexOf(one) + 1, one.spirit, one.waits(), one.yields(), one.notices(), one.noise()};
    return all[what];
  }

  public int comes(int d, int lag) {
    if (!in(d, 0, 7) || !in(lag, 0, 9)) {
      return -1;
    }
    return noPerson(d) != 0 ? noPerson(d) : room.come(shelves[d].kind, shelves[d].figure, lag);
  }

  public int mutes(int q) {
    return room.has(q) ? room.mute(q) : -1;
  }

  public int goes(int q) {
    return room.has(q) ? room.go(q) : -1;
  }

  public int hands(int q) {
    return room.has(q) ? room.hand(q) : -1;
  }

  public int turns(int q, int seconds) {
    return room.has(q) && in(seconds, 1, 99) ? room.turn(q, seconds) : -1;
  }

  public int laughs(int q) {
    return room.has(q) ? room.laugh(q) : -1;
  }

  // ---- pauses, rules

  public int pause(int what) {
    if (!in(what, 0, 2)) {
      return -1;
    }
    int[] told = room.pause();
    return told == null ? NEVER : told[what];
  }

  public int rule(int q, int rule, int what) {
    if (!room.has(q) || !in(rule, 0, 2) || !in(what, 0, 1)) {
      return -1;
    }
    Room ruled = room.again();
    if (rule > 0) {
      ruled.ones.forEach(o -> o.muted = rule == 2);
    }
    One speaker = ruled.ones.get(q);
    speaker.muted = false;
    if (what == 1) {
      return ruled.noiseAround(speaker, speaker);
    }
    return speaker.there ? ruled.hearersOf(speaker).size() : 0;
  }

  public int bestRule(int q) {
    if (!room.has(q)) {
      return -1;
    }
    int[] hear = {rule(q, 0, 0), rule(q, 1, 0), rule(q, 2, 0)};
    int most = Math.max(hear[0], Math.max(hear[1], hear[2]));
    return hear[0] == most ? 0 : hear[1] == most ? 1 : 2;
  }

  public int drowns(int f) {
    if (!in(f, 0, 9)) {
      return -1;
    }
    int cooks = 0;
    while (f > 0 && cooks * f < 10) {
      cooks++;
    }
    return f == 0 ? -4 : cooks;
  }

  public int told(int q, int what) {
    if (!room.has(q) || !in(what, 0, 1)) {
      return -1;
    }
    One teller = room.tellerOf(room.ones.get(q));
    if (teller == null) {
      return -4;
    }
    return what == 0 ? room.ones.indexOf(teller) : teller.tells() / 10 + 1;
  }

  public int quickest(int q) {
    if (!room.has(q)) {
      return -1;
    }
    int best = -4;
    int soonest = Integer.MAX_VALUE;
    for (int o = 0; o < room.ones.size(); o++) {
      Room tried = room.again();
      tried.ones.forEach(one -> one.muted = true);
      tried.ones.get(o).muted = o == q;
      One teller = tried.tellerOf(tried.ones.get(q));
      if (teller != null && teller.tells() < soonest) {
        soonest = teller.tells();
        best = o;
      }
    }
    return best;
  }

  public int silence() {
    int tenths = 0;
    while (object(tenths) != object(999)) {
      tenths++;
    }
    return tenths;
  }

  public int object(int t) {
    return in(t, 0, 999) ? bits(room.ones, o -> o.awake() && o.waits() + o.lag + (o.muted ? 10 : 0) <= t) : -1;
  }

  public int again(int q, int s, int d) {
    if (!room.has(q) || !in(s, 1, 99) || !in(d, 0, 9)) {
      return -1;
    }
    List<One> others = new ArrayList<>(room.ones);
    others.remove(q);
    boolean somebody = others.stream().anyMatch(One::canSpeak);
    long lost = others.stream().filter(o -> o.there && !o.canSpeak()).count();
    return s <= (somebody ? s / 2 : s) + d * lost ? 1 : 0;
  }

  // ---- hands, games

  public int next(int i) {
    if (i < 0) {
      return -1;
    }
    return i < room.up.size() ? room.ones.indexOf(room.up.get(i)) : -4;
  }

  public int waiting(int what) {
    if (!in(what, 0, 2)) {
      return -1;
    }
    List<One> best = new ArrayList<>(room.up);
    if (what > 0) {
      tryOrders(new ArrayList<>(), room.up, best);
    }
    if (what == 2) {
      return best.isEmpty() ? -4 : room.ones.indexOf(best.get(0));
    }
    return waited(best);
  }

  /** All orders, those that keep nearest to the hands' first. */
  private static void tryOrders(List<One> begun, List<One> left, List<One> best) {
    if (left.isEmpty() && waited(begun) < waited(best)) {
      best.clear();
      best.addAll(begun);
    }
    for (int i = 0; i < left.size(); i++) {
      List<One> more = new ArrayList<>(begun);
      List<One> fewer = new ArrayList<>(left);
      more.add(fewer.remove(i));
      tryOrders(more, fewer, best);
    }
  }

  private static int waited(List<One> order) {
    int together = 0;
    for (int i = 0; i < order.size(); i++) {
      for (int ahead = 0; ahead < i; ahead++) {
        together += order.get(ahead).waits() + 10 * order.get(ahead).figure;
      }
    }
    return together;
  }

  public int two(int a, int b) {
    if (!room.has(a) || !room.has(b) || a == b) {
      return -1;
    }
    int lagA = room.ones.get(a).lag;
    int lagB = room.ones.get(b).lag;
    int[][] gainA = new int[13][13];
    int[][] gainB = new int[13][13];
    for (int x = 0; x < 13; x++) {
      for (int y = 0; y < 13; y++) {
        boolean aFirst = x + lagB < y;
        boolean bFirst = y + lagA < x;
        gainA[x][y] = aFirst ? 20 - x : bFirst ? 5 : 0;
        gainB[x][y] = bFirst ? 20 - y : aFirst ? 5 : 0;
      }
    }
    for (int pair = 0; pair < 169; pair++) {
      int x = pair / 13;
      int y = pair % 13;
      boolean best = true;
      for (int other = 0; other < 13; other++) {
        best = best && gainA[other][y] <= gainA[x][y] && gainB[x][other] <= gainB[x][y];
      }
      if (best) {
        return 100 * x + y;
      }
    }
    return -4;
  }

  public int chat(int c) {
    if (!in(c, 1, 99)) {
      return -1;
    }
    int[] told = room.pause();
    return told == null || 10 * c < told[1] + 10 * told[2] ? 1 : 0;
  }

  public int truly(int d) {
    if (noRow(d) != 0) {
      return noRow(d);
    }
    if (shelves[d].row.length > room.ones.size()) {
      return -13;
    }
    int bits = 0;
    for (int q = 0; q < shelves[d].row.length; q++) {
      One one = room.ones.get(q);
      long late = shelves[d].row[q] - one.waits();
      bits += !shelves[d].skipped(q) && late >= 0 && late <= one.notices() + one.lag ? 1 << q : 0;
    }
    return bits;
  }

  public int spirits(int what) {
    if (!in(what, 0, 1)) {
      return -1;
    }
    if (what == 0) {
      return room.ones.stream().mapToInt(o -> o.spirit).sum();
    }
    for (int spirit = 0; spirit <= 20; spirit++) {
      for (int q = 0; q < room.ones.size(); q++) {
        if (room.ones.get(q).there && room.ones.get(q).spirit == spirit) {
          return q;
        }
      }
    }
    return -4;
  }

  public int bears(int g, int what) {
    if (!in(g, 0, 9) || !in(what, 0, 1)) {
      return -1;
    }
    Room fuller = room.again();
    for (int more = 0; more <= 6; more++) {
      int[] told = fuller.pause();
      if (what == 0 && told == null) {
        return more;
      }
      if (what == 1 && more == 1) {
        return told == null ? -4 : told[1];
      }
      fuller.ones.add(new One(0, 0, g));
    }
    return -4;
  }

  // ---- records

  private int noRecord(int d, int f) {
    if (!in(d, 0, 7) || !in(f, 0, 9)) {
      return -1;
    }
    if (noRow(d) != 0) {
      return noRow(d);
    }
    long[] row = shelves[d].row;
    for (int i = 0; i < row.length; i++) {
      boolean square = row[i] == 9 || row[i] >= 0 && row[i] < room.ones.size();
      boolean noise = row[i] >= 0 && row[i] <= 9;
      if (i % 2 == 0 ? !square : !noise) {
        return -13;
      }
    }
    return row.length % 2 == 0 ? 0 : -13;
  }

  private List<Integer> fitting(int d, int f, int pairs) {
    List<Integer> left = new ArrayList<>();
    for (int q = 0; q < room.ones.size(); q++) {
      left.add(q);
    }
    for (int i = 0; i < pairs; i++) {
      long muted = shelves[d].row[2 * i];
      long noise = shelves[d].row[2 * i + 1];
      left.removeIf(q -> noise != (q == muted ? 0 : f));
    }
    return left;
  }

  public int cooked(int d, int f, int what) {
    if (!in(what, 0, 1) || noRecord(d, f) == -1) {
      return -1;
    }
    if (noRecord(d, f) != 0) {
      return noRecord(d, f);
    }
    List<Integer> left = fitting(d, f, shelves[d].row.length / 2);
    return what == 0 ? left.size() : left.isEmpty() ? -4 : left.get(0);
  }

  public int forged(int d, int f) {
    if (noRecord(d, f) != 0) {
      return noRecord(d, f);
    }
    for (int pair = 0; pair < shelves[d].row.length / 2; pair++) {
      if (fitting(d, f, pair + 1).isEmpty()) {
        return pair;
      }
    }
    return -4;
  }

  /** Who speaks in n pauses one behind the other, each who spoke being muted. */
  int[] speakers(int n) {
    Room later = room.again();
    int[] all = new int[n];
    for (int i = 0; i < n; i++) {
      int[] told = later.pause();
      all[i] = told == null ? 9 : told[0];
      if (told != null) {
        later.ones.get(told[0]).muted = true;
      }
    }
    return all;
  }

  public int judge(int d) {
    if (noRow(d) != 0) {
      return noRow(d);
    }
    int[] due = speakers(shelves[d].row.length);
    for (int i = 0; i < due.length; i++) {
      if (!shelves[d].skipped(i) && shelves[d].row[i] != due[i]) {
        return i;
      }
    }
    return -4;
  }

  public int meetings(int n, int z, int what) {
    if (!in(n, 1, 20) || !in(what, 0, 1)) {
      return -1;
    }
    // By numbers without end in place of an int that wraps around.
    java.math.BigInteger seed = java.math.BigInteger.valueOf(z);
    Room met = room.again();
    int ended = 0;
    int tenths = 0;
    for (int i = 0; i < n; i++) {
      for (One one : met.ones) {
        seed = drawn(seed);
        one.lag = high(seed) % 10;
        seed = drawn(seed);
        one.muted = high(seed) % 2 == 1;
      }
      int[] told = met.pause();
      ended += told == null ? 0 : 1;
      tenths += told == null ? 0 : told[1];
    }
    return what == 0 ? ended : tenths;
  }

  private static java.math.BigInteger drawn(java.math.BigInteger seed) {
    return seed.multiply(java.math.BigInteger.valueOf(1103515245)).add(java.math.BigInteger.valueOf(12345));
  }

  private static int high(java.math.BigInteger seed) {
    return seed.mod(java.math.BigInteger.TWO.pow(31)).intValueExact() / 65536;
  }

  // ---- the image, what is told

  public int image() {
    image = room.again();
    return room.clock;
  }

  public int restore() {
    if (image == null) {
      return -3;
    }
    room = image.again();
    return room.clock;
  }

  public int count(int what) {
    switch (what) {
      case 0: return room.ones.size();
      case 1: return room.clock;
      case 2: return bits(room.ones, o -> o.muted);
      case 3: return bits(room.ones, o -> o.there);
      case 4: return room.up.size();
      case 5: return bits(room.ones, One::canSpeak);
      case 6: return room.ones.stream().mapToInt(o -> o.lag).sum();
      case 7: return room.noiseAround(null, null);
      default: return -1;
    }
  }

  // ---- shelves

  public int keep(int d, int what, int k, int figure) {
    if (!in(d, 0, 7) || !in(what, 0, 1) || what == 1 && (!in(k, 0, 7) || !in(figure, 0, 9))) {
      return -1;
    }
    shelves[d] = new Keeping();
    shelves[d].person = what == 1;
    shelves[d].kind = k;
    shelves[d].figure = figure;
    return 0;
  }

  public int row(int d, int sort, int n) {
    if (!in(d, 0, 7) || !in(sort, 0, 2) || n > 100) {
      return -1;
    }
    if (n < 0) {
      return -14;
    }
    shelves[d] = new Keeping();
    shelves[d].sort = sort;
    shelves[d].row = new long[n];
    return 0;
  }

  public int put(int d, int i, int v) {
    if (noRow(d) != 0) {
      return noRow(d);
    }
    if (!in(i, 0, shelves[d].row.length - 1)) {
      return -13;
    }
    int lost = new int[] {24, 16, 0}[shelves[d].sort];
    shelves[d].row[i] = v << lost >> lost;
    return 0;
  }

  public long element(int d, int i) {
    if (!in(d, 0, 7)) {
      throw new IllegalArgumentException("no such shelf");
    }
    if (noRow(d) != 0 || !in(i, 0, shelves[d].row.length - 1)) {
      throw new IllegalStateException("no row, or no such place");
    }
    return shelves[d].row[i];
  }

  public int copy(int d, int i, int e, int j, int n) {
    if (!in(d, 0, 7) || !in(e, 0, 7)) {
      return -1;
    }
    if (noRow(d) == -11 || noRow(e) == -11) {
      return -11;
    }
    if (noRow(d) != 0 || noRow(e) != 0 || shelves[d].sort != shelves[e].sort) {
      return -12;
    }
    long[] from = shelves[d].row.clone();
    long[] to = shelves[e].row;
    if (i < 0 || j < 0 || n < 0 || (long) i + n > from.length || (long) j + n > to.length) {
      return -13;
    }
    for (int k = 0; k < n; k++) {
      to[j + k] = from[i + k];
    }
    return n;
  }

  public int cost(int d) {
    if (noPerson(d) != 0) {
      return noPerson(d);
    }
    int figure = shelves[d].figure;
    return new int[] {4, 4 + figure, 2, 11, 2, 8 + 2 * figure, 2 + figure, 3}[shelves[d].kind];
  }

  public int toss(int d) {
    if (noPerson(d) != 0) {
      return noPerson(d);
    }
    int figure = shelves[d].figure;
    int[] caught = {figure, 100 + figure, figure, figure, -15, 200 + cost(d), figure, -15};
    return figure == 0 ? -15 : caught[shelves[d].kind];
  }
}
