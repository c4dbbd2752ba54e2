/** The boundary cases of shelves: terms III, promises 33 to 39. */
public final class ShelvesEdgesTest {
  private static final Checks c = new Checks("ShelvesEdgesTest");
  private static final int MIN = Integer.MIN_VALUE;
  private static final int MAX = Integer.MAX_VALUE;
  private static final int[] NO_SHELVES = {-1, 8, MIN, MAX};

  public static void main(String[] args) {
    nothingAtFirst();
    eightShelves();
    keepNothing();
    keepKinds();
    keepWhat();
    keepRefused();
    rowSizes();
    rowSorts();
    rowZeros();
    rowRefused();
    putBytes();
    putShorts();
    putInts();
    putPlaces();
    putRefused();
    elementThrows();
    elementChangesNothing();
    copyNoneAndAll();
    copyOverItself();
    copySorts();
    copyOrder();
    copyPlaces();
    copyRefused();
    costs();
    costRefused();
    failures();
    noFailures();
    tossRefused();
    whatIsTakenStays();
    c.end();
  }

  /** What a shelf holds, in one text: nothing, one by cost and failure, or a row by its elements. */
  private static String held(YouAreOnMute x, int d) {
    int cost = x.cost(d);
    if (cost == -11) {
      return "nothing";
    }
    if (cost >= 0) {
      return "one of " + cost + ", " + x.toss(d);
    }
    StringBuilder s = new StringBuilder("row");
    for (int i = 0; thrown(x, d, i) == 0; i++) {
      s.append(' ').append(x.element(d, i));
    }
    return s.toString();
  }

  private static String allHeld(YouAreOnMute x) {
    StringBuilder s = new StringBuilder();
    for (int d = 0; d <= 7; d++) {
      s.append(held(x, d)).append("; ");
    }
    return s.toString();
  }

  /** 0 for an answer, 1 for IllegalArgumentException, 2 for IllegalStateException, 3 for any under them. */
  private static int thrown(YouAreOnMute x, int d, int i) {
    try {
      x.element(d, i);
      return 0;
    } catch (IllegalArgumentException e) {
      return e.getClass() == IllegalArgumentException.class ? 1 : 3;
    } catch (IllegalStateException e) {
      return e.getClass() == IllegalStateException.class ? 2 : 3;
    }
  }

  /** Nothing on shelf 0, a cook on 1, bytes, shorts and ints on 2, 3 and 4, an empty row on 5. */
  private static YouAreOnMute filled() {
    YouAreOnMute x = new YouAreOnMute();
    x.keep(1, 1, Checks.COOK, 7);
    Checks.fill(x, 2, Checks.BYTES, 1, -2, 3);
    Checks.fill(x, 3, Checks.SHORTS, 300, -400, 500);
    Checks.fill(x, 4, Checks.INTS, 70000, -80000, 90000);
    x.row(5, Checks.BYTES, 0);
    return x;
  }

  private static int[] many(int n, int first) {
    int[] all = new int[n];
    for (int i = 0; i < n; i++) {
      all[i] = first + i;
    }
    return all;
  }

  private static void nothingAtFirst() {
    c.sentence("SHELVES 0 .. 7 each hold nothing (at first)");
    YouAreOnMute x = new YouAreOnMute();
    for (int d = 0; d <= 7; d++) {
      c.due("house of shelf " + d, x.house(d), -11);
      c.due("comes of shelf " + d, x.comes(d, 0), -11);
      c.due("truly of shelf " + d, x.truly(d), -11);
      c.due("cooked of shelf " + d, x.cooked(d, 0, 0), -11);
      c.due("forged of shelf " + d, x.forged(d, 0), -11);
      c.due("judge of shelf " + d, x.judge(d), -11);
      c.due("put of shelf " + d, x.put(d, 0, 0), -11);
      c.due("element of shelf " + d, thrown(x, d, 0), 2);
      c.due("copy from shelf " + d, x.copy(d, 0, 7 - d, 0, 0), -11);
      c.due("cost of shelf " + d, x.cost(d), -11);
      c.due("toss of shelf " + d, x.toss(d), -11);
    }
  }

  private static void eightShelves() {
    c.sentence("SHELVES 0 .. 7 each hold .. a KIND of PEOPLE");
    YouAreOnMute x = new YouAreOnMute();
    for (int d = 0; d <= 7; d++) {
      c.due("one on shelf " + d, x.keep(d, 1, Checks.POLITE, d + 1), 0);
    }
    for (int d = 0; d <= 7; d++) {
      c.due("the one of shelf " + d, x.toss(d), 101 + d);
    }
    c.sentence("SHELVES 0 .. 7 each hold .. a ROW");
    for (int d = 0; d <= 7; d++) {
      c.due("a row on shelf " + d, x.row(d, Checks.INTS, 100), 0);
      c.due("its last element", x.put(d, 99, 1000 + d), 0);
    }
    for (int d = 0; d <= 7; d++) {
      c.due("the row of shelf " + d, x.element(d, 99), 1000 + d);
    }
  }

  private static void keepNothing() {
    c.sentence("what = 0 nothing (the others do not matter): 0");
    int[] others = {-1, 0, 7, 8, 10, MIN, MAX};
    for (int k : others) {
      for (int figure : others) {
        YouAreOnMute x = filled();
        c.due("nothing in place of one, " + k + ", " + figure, x.keep(1, 0, k, figure), 0);
        c.due("nothing in place of a row, " + k + ", " + figure, x.keep(2, 0, k, figure), 0);
        c.due("nothing in place of nothing, " + k + ", " + figure, x.keep(0, 0, k, figure), 0);
        c.same("shelves", allHeld(x), "nothing; nothing; nothing; row 300 -400 500; "
            + "row 70000 -80000 90000; row; nothing; nothing; ");
      }
    }
  }

  private static void keepKinds() {
    c.sentence("1 a KIND of PEOPLE of KIND k with a FIGURE: 0");
    for (int k = 0; k <= 7; k++) {
      for (int figure = 0; figure <= 9; figure += 9) {
        YouAreOnMute x = filled();
        c.due("kind " + k + ", figure " + figure, x.keep(0, 1, k, figure), 0);
        c.due("in place of another", x.keep(1, 1, k, figure), 0);
        c.due("in place of a row", x.keep(2, 1, k, figure), 0);
        c.due("no row any more", x.put(2, 0, 0), -12);
        for (int d = 0; d <= 2; d++) {
          c.due("comes from shelf " + d, x.comes(d, 0), d);
          c.due("his kind", x.square(d, 0), k);
          c.due("his figure", x.square(d, 1), figure);
        }
      }
    }
  }

  private static void keepWhat() {
    c.sentence("keep: what = 0 .. 1; -1");
    int[] wrong = {-1, 2, MIN, MAX};
    for (int what : wrong) {
      YouAreOnMute x = filled();
      String before = allHeld(x);
      for (int d = 0; d <= 7; d++) {
        c.due("what " + what + " for shelf " + d, x.keep(d, what, 0, 0), -1);
      }
      c.same("shelves", allHeld(x), before);
    }
  }

  private static void keepRefused() {
    c.sentence("keep: -1 (nothing changes)");
    YouAreOnMute x = filled();
    String before = allHeld(x);
    int[] kinds = {-1, 8, MIN, MAX};
    int[] figures = {-1, 10, MIN, MAX};
    for (int d = 0; d <= 5; d++) {
      for (int i = 0; i < 4; i++) {
        c.due("kind " + kinds[i], x.keep(d, 1, kinds[i], 5), -1);
        c.due("figure " + figures[i], x.keep(d, 1, Checks.SHY, figures[i]), -1);
      }
    }
    c.same("shelves", allHeld(x), before);
    for (int d : NO_SHELVES) {
      c.due("shelf " + d, x.keep(d, 1, 0, 0), -1);
      c.due("nothing for shelf " + d, x.keep(d, 0, 0, 0), -1);
    }
    c.same("shelves", allHeld(x), before);
  }

  private static void rowSizes() {
    c.sentence("A ROW has .. 0 .. 100 elements");
    int[] sizes = {0, 1, 99, 100};
    for (int sort = 0; sort <= 2; sort++) {
      for (int n : sizes) {
        YouAreOnMute x = filled();
        c.due("sort " + sort + " of " + n, x.row(0, sort, n), 0);
        c.due("place -1", x.put(0, -1, 1), -13);
        c.due("the first", x.put(0, 0, 1), n > 0 ? 0 : -13);
        c.due("the last", x.put(0, n - 1, 1), n > 0 ? 0 : -13);
        c.due("one behind the last", x.put(0, n, 1), -13);
        c.due("element -1", thrown(x, 0, -1), 2);
        c.due("the first element", thrown(x, 0, 0), n > 0 ? 0 : 2);
        c.due("the last element", thrown(x, 0, n - 1), n > 0 ? 0 : 2);
        c.due("element behind the last", thrown(x, 0, n), 2);
      }
    }
    c.sentence("SHELF d gets a ROW (in place of what it held)");
    YouAreOnMute x = filled();
    for (int d = 0; d <= 5; d++) {
      c.due("a row for shelf " + d, x.row(d, Checks.SHORTS, 1), 0);
      c.due("no one any more, " + d, x.cost(d), -12);
      c.due("who could fail, " + d, x.toss(d), -12);
      c.due("or come, " + d, x.comes(d, 0), -12);
    }
    c.same("shelves", allHeld(x), "row 0; row 0; row 0; row 0; row 0; row 0; nothing; nothing; ");
    c.sentence("-1 (n above 100)");
    x = filled();
    String before = allHeld(x);
    int[] above = {101, 102, 127, 128, 32768, MAX};
    for (int n : above) {
      for (int d = 0; d <= 7; d++) {
        c.due("n " + n + " for shelf " + d, x.row(d, Checks.BYTES, n), -1);
      }
    }
    c.same("shelves", allHeld(x), before);
    c.sentence("-14 (a size below 0)");
    int[] below = {-1, -2, -100, -128, MIN};
    for (int n : below) {
      for (int d = 0; d <= 7; d++) {
        c.due("n " + n + " for shelf " + d, x.row(d, Checks.INTS, n), -14);
      }
    }
    c.same("shelves", allHeld(x), before);
  }

  private static void rowSorts() {
    c.sentence("A ROW has a SORT (0 bytes, 1 shorts, 2 ints)");
    long[] kept = {(byte) 70000, (short) 70000, 70000};
    for (int sort = 0; sort <= 2; sort++) {
      YouAreOnMute x = filled();
      c.due("sort " + sort, x.row(0, sort, 1), 0);
      x.put(0, 0, 70000);
      c.due("keeps its bits", x.element(0, 0), kept[sort]);
      c.due("another sort in its place", x.row(0, 2 - sort, 1), 0);
      x.put(0, 0, 70000);
      c.due("keeps the other's bits", x.element(0, 0), kept[2 - sort]);
    }
    YouAreOnMute x = filled();
    String before = allHeld(x);
    int[] wrong = {-1, 3, MIN, MAX};
    for (int sort : wrong) {
      for (int d = 0; d <= 7; d++) {
        c.due("sort " + sort + " for shelf " + d, x.row(d, sort, 1), -1);
      }
    }
    c.same("shelves", allHeld(x), before);
  }

  private static void rowZeros() {
    c.sentence("0 .. 100 elements, 0 at first");
    for (int sort = 0; sort <= 2; sort++) {
      YouAreOnMute x = new YouAreOnMute();
      x.row(0, sort, 100);
      for (int i = 0; i < 100; i++) {
        c.due("element " + i + " of sort " + sort, x.element(0, i), 0);
      }
    }
    c.sentence("0 at first (a new ROW in place of an old one)");
    YouAreOnMute x = new YouAreOnMute();
    Checks.fill(x, 0, Checks.INTS, many(100, 1));
    x.row(0, Checks.INTS, 100);
    for (int i = 0; i < 100; i++) {
      c.due("element " + i, x.element(0, i), 0);
    }
    // What stood beyond a shorter row may not come back with a longer one.
    Checks.fill(x, 1, Checks.BYTES, many(100, 1));
    x.row(1, Checks.BYTES, 1);
    x.row(1, Checks.BYTES, 100);
    x.keep(2, 1, Checks.COOK, 1);
    Checks.fill(x, 2, Checks.BYTES, 7, 8, 9);
    x.keep(2, 0, 0, 0);
    x.row(2, Checks.BYTES, 3);
    c.due("the second and the last", x.element(1, 1) + x.element(1, 99), 0);
    c.due("behind nothing", x.element(2, 0) + x.element(2, 1) + x.element(2, 2), 0);
  }

  private static void rowRefused() {
    c.sentence("row: -1 (n above 100); -14");
    YouAreOnMute x = filled();
    String before = allHeld(x);
    for (int d : NO_SHELVES) {
      c.due("shelf " + d, x.row(d, Checks.BYTES, 1), -1);
      c.due("shelf " + d + " ahead of n -1", x.row(d, Checks.BYTES, -1), -1);
      c.due("shelf " + d + " with n 101", x.row(d, Checks.BYTES, 101), -1);
    }
    c.due("sort 3 ahead of n -1", x.row(2, 3, -1), -1);
    c.due("sort -1 ahead of n -1", x.row(2, -1, -1), -1);
    c.due("sort -1 ahead of the least n", x.row(2, -1, MIN), -1);
    c.due("n -1 alone", x.row(2, 2, -1), -14);
    c.same("shelves", allHeld(x), before);
    c.due("the bytes are bytes still", x.put(2, 0, 256), 0);
    c.due("0", x.element(2, 0), 0);
  }

  private static void kept(int sort, int v, long due) {
    YouAreOnMute x = new YouAreOnMute();
    x.row(0, sort, 3);
    c.due("put " + v, x.put(0, 1, v), 0);
    c.due("kept of " + v, x.element(0, 1), due);
    c.due("those beside it", x.element(0, 0) + x.element(0, 2), 0);
  }

  private static void putBytes() {
    c.sentence("what is put in keeps its lowest bits (bytes)");
    int[][] due = {{0, 0}, {1, 1}, {-1, -1}, {127, 127}, {128, -128}, {-128, -128}, {-129, 127},
        {255, -1}, {256, 0}, {257, 1}, {-256, 0}, {-255, 1}, {32767, -1}, {32768, 0}, {65535, -1},
        {65536 + 200, -56}, {MAX, -1}, {MIN, 0}, {MIN + 128, -128}};
    for (int[] pair : due) {
      kept(Checks.BYTES, pair[0], pair[1]);
    }
  }

  private static void putShorts() {
    c.sentence("what is put in keeps its lowest bits (shorts)");
    int[][] due = {{0, 0}, {-1, -1}, {128, 128}, {-129, -129}, {255, 255}, {256, 256},
        {32767, 32767}, {32768, -32768}, {-32768, -32768}, {-32769, 32767}, {65535, -1}, {65536, 0},
        {65537, 1}, {-65536, 0}, {MAX, -1}, {MIN, 0}, {MIN + 32768, -32768}};
    for (int[] pair : due) {
      kept(Checks.SHORTS, pair[0], pair[1]);
    }
  }

  private static void putInts() {
    c.sentence("what is put in keeps its lowest bits (ints: all of them)");
    int[] values = {0, -1, 128, -129, 32768, -32769, 65536, MAX, MIN, MAX - 1, MIN + 1};
    for (int v : values) {
      kept(Checks.INTS, v, v);
    }
  }

  private static void putPlaces() {
    c.sentence("put: Element i of the ROW becomes v: 0 (a hundred)");
    YouAreOnMute x = new YouAreOnMute();
    x.row(0, Checks.SHORTS, 100);
    for (int i = 0; i < 100; i++) {
      c.due("place " + i, x.put(0, i, 1000 + i), 0);
    }
    for (int i = 0; i < 100; i++) {
      c.due("element " + i, x.element(0, i), 1000 + i);
    }
    c.due("once more", x.put(0, 99, -5), 0);
    c.due("becomes", x.element(0, 99), -5);
    c.due("the one ahead stays", x.element(0, 98), 1098);
    c.sentence("-13 a place that isn't there");
    int[] wrong = {-1, 100, 101, MIN, MAX};
    for (int i : wrong) {
      c.due("place " + i + " of a hundred", x.put(0, i, 7), -13);
      c.due("element " + i + " of a hundred", thrown(x, 0, i), 2);
    }
    x.row(1, Checks.SHORTS, 1);
    int[] wrongOfOne = {-1, 1, 2, 99, MIN, MAX};
    for (int i : wrongOfOne) {
      c.due("place " + i + " of one", x.put(1, i, 7), -13);
    }
    x.row(2, Checks.SHORTS, 0);
    int[] wrongOfNone = {-1, 0, 1, 99, MIN, MAX};
    for (int i : wrongOfNone) {
      c.due("place " + i + " of none", x.put(2, i, 7), -13);
    }
    c.due("the one stays 0", x.element(1, 0), 0);
    c.due("the first of a hundred stays", x.element(0, 0), 1000);
    c.due("the last of a hundred stays", x.element(0, 99), -5);
  }

  private static void putRefused() {
    c.sentence("put: -1, -11, -12, -13");
    YouAreOnMute x = filled();
    String before = allHeld(x);
    for (int d : NO_SHELVES) {
      c.due("shelf " + d, x.put(d, 0, 1), -1);
      c.due("shelf " + d + " ahead of place -1", x.put(d, -1, 1), -1);
    }
    c.due("nothing", x.put(0, 0, 1), -11);
    c.due("nothing, ahead of place -1", x.put(0, -1, 1), -11);
    c.due("a cook", x.put(1, 0, 1), -12);
    c.due("a cook, ahead of place 100", x.put(1, 100, 1), -12);
    c.due("three", x.put(2, 3, 1), -13);
    c.due("none", x.put(5, 0, 1), -13);
    c.same("shelves", allHeld(x), before);
  }

  private static void elementThrows() {
    c.sentence("IllegalArgumentException: no such SHELF");
    YouAreOnMute x = filled();
    int[] places = {-1, 0, 100, MIN, MAX};
    for (int d : NO_SHELVES) {
      for (int i : places) {
        c.due("element " + i + " of shelf " + d, thrown(x, d, i), 1);
      }
    }
    c.sentence("IllegalStateException: no ROW, no such place");
    for (int i : places) {
      c.due("element " + i + " of nothing", thrown(x, 0, i), 2);
      c.due("element " + i + " of a cook", thrown(x, 1, i), 2);
      c.due("element " + i + " of an empty row", thrown(x, 5, i), 2);
      for (int d = 2; d <= 4; d++) {
        c.due("element " + i + " of a row of three", thrown(x, d, i), i == 0 ? 0 : 2);
      }
    }
    for (int d = 2; d <= 4; d++) {
      c.due("the last of three", thrown(x, d, 2), 0);
      c.due("one behind it", thrown(x, d, 3), 2);
    }
    c.sentence("element: Element i of the ROW (the least and the most of each SORT)");
    Checks.fill(x, 2, Checks.BYTES, -128, 127);
    c.due("least byte", x.element(2, 0), -128);
    c.due("most byte", x.element(2, 1), 127);
    Checks.fill(x, 3, Checks.SHORTS, -32768, 32767);
    c.due("least short", x.element(3, 0), -32768);
    c.due("most short", x.element(3, 1), 32767);
    Checks.fill(x, 4, Checks.INTS, MIN, MAX);
    c.due("least int", x.element(4, 0), MIN);
    c.due("most int", x.element(4, 1), MAX);
  }

  private static void elementChangesNothing() {
    c.sentence("REFUSALS (answers; nothing changes), of element, too");
    YouAreOnMute x = filled();
    String before = allHeld(x);
    thrown(x, -1, 0);
    thrown(x, 8, 0);
    thrown(x, 0, 0);
    thrown(x, 1, 0);
    thrown(x, 2, 3);
    thrown(x, 5, 0);
    c.same("shelves", allHeld(x), before);
  }

  private static void copyNoneAndAll() {
    c.sentence("copy: n elements .. come ..: n (none)");
    YouAreOnMute x = new YouAreOnMute();
    Checks.fill(x, 0, Checks.INTS, 1, 2, 3);
    Checks.fill(x, 1, Checks.INTS, 4, 5, 6);
    for (int i = 0; i <= 3; i++) {
      for (int j = 0; j <= 3; j++) {
        c.due("none from " + i + " to " + j, x.copy(0, i, 1, j, 0), 0);
      }
    }
    x.row(2, Checks.INTS, 0);
    c.due("none of an empty row", x.copy(2, 0, 1, 0, 0), 0);
    c.due("none to an empty row", x.copy(1, 0, 2, 0, 0), 0);
    c.due("none of an empty row to itself", x.copy(2, 0, 2, 0, 0), 0);
    c.same("shelves", allHeld(x),
        "row 1 2 3; row 4 5 6; row; nothing; nothing; nothing; nothing; nothing; ");
    c.sentence("copy: n elements .. come ..: n (all hundred)");
    for (int sort = 0; sort <= 2; sort++) {
      x = new YouAreOnMute();
      Checks.fill(x, 0, sort, many(100, 20));
      x.row(7, sort, 100);
      c.due("a hundred", x.copy(0, 0, 7, 0, 100), 100);
      for (int i = 0; i < 100; i++) {
        c.due("element " + i + " came", x.element(7, i), x.element(0, i));
        c.due("element " + i + " stays", x.element(0, i), 20 + i);
      }
    }
    c.sentence("from i on .. from j on (the first, the last)");
    x = new YouAreOnMute();
    Checks.fill(x, 0, Checks.BYTES, 1, 2, 3, 4);
    Checks.fill(x, 1, Checks.BYTES, 10, 20, 30);
    c.due("the last to the first", x.copy(0, 3, 1, 0, 1), 1);
    c.due("the first to the last", x.copy(0, 0, 1, 2, 1), 1);
    c.same("came", held(x, 1), "row 4 20 1");
    c.due("the last three", x.copy(0, 1, 1, 0, 3), 3);
    c.same("came", held(x, 1), "row 2 3 4");
    c.same("stay", held(x, 0), "row 1 2 3 4");
    x.put(0, 1, 99);
    c.same("are none of the other's", held(x, 1), "row 2 3 4");
  }

  private static void copyOverItself() {
    c.sentence("copy (d and e one SHELF: what comes is what was there ahead of it)");
    int[][] due = {{0, 1, 4}, {1, 0, 4}, {0, 2, 3}, {2, 0, 3}, {0, 4, 1}, {4, 0, 1}, {0, 0, 5}, {1, 2, 2},
        {2, 1, 2}, {5, 5, 0}};
    for (int[] one : due) {
      YouAreOnMute x = new YouAreOnMute();
      int[] values = {1, 2, 3, 4, 5};
      Checks.fill(x, 3, Checks.SHORTS, values);
      int[] after = values.clone();
      for (int k = 0; k < one[2]; k++) {
        after[one[1] + k] = values[one[0] + k];
      }
      c.due(one[2] + " from " + one[0] + " to " + one[1], x.copy(3, one[0], 3, one[1], one[2]), one[2]);
      for (int k = 0; k < 5; k++) {
        c.due("element " + k, x.element(3, k), after[k]);
      }
    }
  }

  private static void copySorts() {
    c.sentence("-12 (no ROWS of one SORT)");
    for (int from = 0; from <= 2; from++) {
      for (int to = 0; to <= 2; to++) {
        YouAreOnMute x = new YouAreOnMute();
        Checks.fill(x, 0, from, 1, 2);
        Checks.fill(x, 1, to, 3, 4);
        c.due("sort " + from + " to " + to, x.copy(0, 0, 1, 0, 2), from == to ? 2 : -12);
        c.due("none of sort " + from + " to " + to, x.copy(0, 0, 1, 0, 0), from == to ? 0 : -12);
        c.same("to", held(x, 1), from == to ? "row 1 2" : "row 3 4");
        c.same("from", held(x, 0), "row 1 2");
      }
    }
  }

  private static void copyOrder() {
    c.sentence("copy: -1, -11 (either), -12 (no ROWS of one SORT), -13");
    YouAreOnMute x = filled();
    String before = allHeld(x);
    for (int d : NO_SHELVES) {
      for (int other = 0; other <= 5; other++) {
        c.due("from " + d + " to shelf " + other, x.copy(d, 0, other, 0, 1), -1);
        c.due("from shelf " + other + " to " + d, x.copy(other, 0, d, 0, 1), -1);
        c.due("from " + d + " ahead of its place", x.copy(d, -1, other, -1, -1), -1);
      }
      c.due("from " + d + " to itself", x.copy(d, 0, d, 0, 0), -1);
    }
    for (int other = 0; other <= 5; other++) {
      c.due("from nothing to shelf " + other, x.copy(0, 0, other, 0, 1), -11);
      c.due("from shelf " + other + " to nothing", x.copy(other, 0, 0, 0, 1), -11);
      c.due("to nothing, ahead of any place", x.copy(other, -1, 0, -1, -1), -11);
    }
    for (int other = 1; other <= 5; other++) {
      c.due("from a cook to shelf " + other, x.copy(1, 0, other, 0, 1), -12);
      c.due("from shelf " + other + " to a cook", x.copy(other, 0, 1, 0, 1), -12);
      c.due("to a cook, ahead of any place", x.copy(other, -1, 1, 3, -1), -12);
    }
    c.due("to another sort, ahead of any place", x.copy(2, 3, 3, 3, 1), -12);
    c.due("to another sort, ahead of n", x.copy(3, 0, 4, 0, -1), -12);
    c.same("shelves", allHeld(x), before);
  }

  private static void copyPlaces() {
    c.sentence("copy: -13 (a place that isn't there; a number or a size that isn't as told, too)");
    int[] numbers = {MIN, MIN + 1, -3, -2, -1, 0, 1, 2, 3, 4, 5, 100, 101, MAX - 1, MAX};
    for (int i : numbers) {
      // A new one for each i, as an object is used for 512 calls at most.
      YouAreOnMute x = copied();
      for (int j : numbers) {
        for (int n : numbers) {
          boolean there = i >= 0 && j >= 0 && n >= 0 && (long) i + n <= 4 && (long) j + n <= 2;
          YouAreOnMute each = there ? copied() : x;
          c.due(n + " from " + i + " to " + j, each.copy(0, i, 1, j, n), there ? n : -13);
        }
      }
      c.same("from", held(x, 0), "row 1 2 3 4");
      c.same("to", held(x, 1), "row 10 20");
    }
  }

  private static YouAreOnMute copied() {
    YouAreOnMute x = new YouAreOnMute();
    Checks.fill(x, 0, Checks.BYTES, 1, 2, 3, 4);
    Checks.fill(x, 1, Checks.BYTES, 10, 20);
    return x;
  }

  private static void copyRefused() {
    c.sentence("copy (REFUSALS: nothing changes)");
    YouAreOnMute x = new YouAreOnMute();
    Checks.fill(x, 0, Checks.INTS, many(100, 1));
    Checks.fill(x, 1, Checks.INTS, many(99, 500));
    c.due("a hundred to 99", x.copy(0, 0, 1, 0, 100), -13);
    c.due("a hundred of 99", x.copy(1, 0, 0, 0, 100), -13);
    c.due("99 from 2 on", x.copy(0, 2, 1, 0, 99), -13);
    c.due("99 to 1 on", x.copy(0, 0, 1, 1, 99), -13);
    c.due("101 over itself", x.copy(0, 0, 0, 0, 101), -13);
    c.due("a hundred over itself, one place on", x.copy(0, 0, 0, 1, 100), -13);
    for (int i = 0; i < 99; i++) {
      c.due("from, element " + i, x.element(0, i), 1 + i);
      c.due("to, element " + i, x.element(1, i), 500 + i);
    }
    c.due("99 from 1 on", x.copy(0, 1, 1, 0, 99), 99);
    c.due("the first", x.element(1, 0), 2);
    c.due("the last", x.element(1, 98), 100);
  }

  private static void costs() {
    c.sentence("COST of the one on SHELF d: PERSON 4; POLITE FIGURE more; EAGER 2 less; COOK 7 more; "
        + "FROZEN half of a PERSON's; SHY twice a POLITE's; CHAIR an EAGER's and FIGURE; "
        + "GHOST a FROZEN's and 1");
    for (int figure = 0; figure <= 9; figure++) {
      int[] due = {4, 4 + figure, 2, 11, 2, 2 * (4 + figure), 2 + figure, 3};
      YouAreOnMute x = new YouAreOnMute();
      for (int k = 0; k <= 7; k++) {
        x.keep(k, 1, k, figure);
      }
      for (int k = 0; k <= 7; k++) {
        c.due("cost of kind " + k + ", figure " + figure, x.cost(k), due[k]);
      }
    }
  }

  private static void costRefused() {
    c.sentence("cost: -1, -11, -12 (a ROW)");
    YouAreOnMute x = filled();
    for (int d : NO_SHELVES) {
      c.due("shelf " + d, x.cost(d), -1);
    }
    c.due("nothing", x.cost(0), -11);
    c.due("a cook", x.cost(1), 11);
    for (int d = 2; d <= 5; d++) {
      c.due("row on shelf " + d, x.cost(d), -12);
    }
    c.due("nothing on the last shelf", x.cost(7), -11);
  }

  private static void failures() {
    c.sentence("The FAILURE .. is thrown, and caught: its FIGURE; of POLITE ones 100 more (of SHY ones, "
        + "too); of SHY ones 200 plus their COST, in place of all that (FIGURE, too)");
    for (int figure = 1; figure <= 9; figure++) {
      int[] due = {figure, 100 + figure, figure, figure, -15, 200 + 2 * (4 + figure), figure, -15};
      YouAreOnMute x = new YouAreOnMute();
      for (int k = 0; k <= 7; k++) {
        x.keep(k, 1, k, figure);
      }
      for (int k = 0; k <= 7; k++) {
        c.due("failure of kind " + k + ", figure " + figure, x.toss(k), due[k]);
      }
    }
  }

  private static void noFailures() {
    c.sentence("-15: FROZEN ones and GHOSTS .. have none");
    YouAreOnMute x = new YouAreOnMute();
    for (int figure = 0; figure <= 9; figure++) {
      x.keep(0, 1, Checks.FROZEN, figure);
      x.keep(1, 1, Checks.GHOST, figure);
      c.due("a frozen one with " + figure, x.toss(0), -15);
      c.due("a ghost with " + figure, x.toss(1), -15);
    }
    c.sentence("-15: .. any with FIGURE 0, have none");
    for (int k = 0; k <= 7; k++) {
      x.keep(0, 1, k, 0);
      c.due("kind " + k, x.toss(0), -15);
    }
  }

  private static void tossRefused() {
    c.sentence("toss: -1, -11, -12 (a ROW); -15");
    YouAreOnMute x = filled();
    for (int d : NO_SHELVES) {
      c.due("shelf " + d, x.toss(d), -1);
    }
    c.due("nothing", x.toss(0), -11);
    c.due("a cook", x.toss(1), 7);
    for (int d = 2; d <= 5; d++) {
      c.due("row on shelf " + d, x.toss(d), -12);
    }
    x.keep(7, 1, Checks.PERSON, 0);
    c.due("one without a failure", x.toss(7), -15);
    String before = allHeld(x);
    for (int d = -1; d <= 8; d++) {
      x.toss(d);
      x.toss(d);
    }
    c.same("shelves", allHeld(x), before);
  }

  private static void whatIsTakenStays() {
    c.sentence("what is taken from a SHELF, stay there");
    YouAreOnMute x = filled();
    x.comes(1, 0);
    Checks.write(x, 7, "s000;s100;m0;o1;l0;h0;t205;");
    x.house(7);
    Checks.fill(x, 0, Checks.BYTES, 9, 0);
    String before = allHeld(x);
    x.comes(1, 3);
    x.cost(1);
    x.toss(1);
    x.house(7);
    x.truly(0);
    x.cooked(0, 0, 0);
    x.forged(0, 0);
    x.judge(0);
    x.meetings(20, 5, 0);
    x.mutes(0);
    x.laughs(0);
    x.turns(0, 9);
    x.goes(0);
    c.same("shelves", allHeld(x), before);
    c.sentence("when THE IMAGE is RESTORED, SHELVES stay as they are");
    x.image();
    x.keep(1, 1, Checks.SHY, 4);
    x.put(0, 1, 5);
    x.keep(2, 0, 0, 0);
    x.row(3, Checks.BYTES, 2);
    String changed = allHeld(x);
    x.restore();
    c.same("shelves", allHeld(x), changed);
    c.due("a shy one", x.cost(1), 16);
    c.due("5", x.element(0, 1), 5);
    c.due("nothing", x.cost(2), -11);
  }
}
