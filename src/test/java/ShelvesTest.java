/** Promises 33 to 39: shelves. */
public final class ShelvesTest {
  private static final Checks c = new Checks("ShelvesTest");

  public static void main(String[] args) {
    keep();
    row();
    put();
    element();
    copy();
    copyRefusals();
    costAndToss();
    c.end();
  }

  private static void keep() {
    YouAreOnMute x = new YouAreOnMute();
    c.due("a person", x.keep(7, 1, 7, 9), 0);
    c.due("is there", x.cost(7), 3);
    c.due("nothing, whatever the others", x.keep(7, 0, -5, 77), 0);
    c.due("is gone", x.cost(7), -11);
    x.row(7, Checks.BYTES, 4);
    x.keep(7, 0, 0, 0);
    c.due("a row is gone", x.put(7, 0, 0), -11);
    x.row(7, Checks.BYTES, 4);
    x.keep(7, 1, 0, 1);
    c.due("a person in its place", x.put(7, 0, 0), -12);
    int[][] wrong = {{-1, 1, 0, 0}, {8, 1, 0, 0}, {8, 0, 0, 0}, {0, -1, 0, 0}, {0, 2, 0, 0},
        {0, 1, -1, 0}, {0, 1, 8, 0}, {0, 1, 0, -1}, {0, 1, 0, 10}};
    x.keep(0, 1, Checks.COOK, 2);
    for (int[] w : wrong) {
      c.due("keep " + java.util.Arrays.toString(w), x.keep(w[0], w[1], w[2], w[3]), -1);
    }
    c.due("as it was", x.cost(0), 11);
  }

  private static void row() {
    YouAreOnMute x = new YouAreOnMute();
    c.due("100", x.row(0, Checks.INTS, 100), 0);
    c.due("its last", x.put(0, 99, 7), 0);
    c.due("one too far", x.put(0, 100, 7), -13);
    c.due("new, shorter", x.row(0, Checks.INTS, 50), 0);
    c.due("shorter", x.put(0, 99, 7), -13);
    x.row(0, Checks.SHORTS, 100);
    c.due("0 at first", x.element(0, 99), 0);
    Checks.fill(x, 0, Checks.SHORTS, 8, 9);
    x.row(0, Checks.SHORTS, 2);
    c.due("0 again", x.element(0, 0) + x.element(0, 1), 0);
    c.due("empty", x.row(0, Checks.BYTES, 0), 0);
    c.due("empty, no place", x.put(0, 0, 0), -13);
    c.due("shelf -1", x.row(-1, 0, 0), -1);
    c.due("shelf 8", x.row(8, 0, 0), -1);
    c.due("sort -1", x.row(1, -1, 0), -1);
    c.due("sort 3", x.row(1, 3, 0), -1);
    c.due("n 101", x.row(1, 0, 101), -1);
    c.due("n -1", x.row(1, 0, -1), -14);
    c.due("n least", x.row(1, 0, Integer.MIN_VALUE), -14);
    c.due("sort ahead of n", x.row(1, 3, -1), -1);
    c.due("nothing came of it", x.put(1, 0, 0), -11);
    x.keep(1, 1, 0, 0);
    c.due("in place of a person", x.row(1, 0, 1), 0);
    c.due("the person is gone", x.cost(1), -12);
  }

  private static void put() {
    YouAreOnMute x = new YouAreOnMute();
    int[] values = {0, 1, -1, 127, 128, -128, -129, 255, 256, 32767, 32768, -32769, 65535, 70000,
        Integer.MAX_VALUE, Integer.MIN_VALUE};
    for (int v : values) {
      Checks.fill(x, 0, Checks.BYTES, 0, v, 0);
      c.due("byte " + v, x.element(0, 1), (byte) v);
      Checks.fill(x, 1, Checks.SHORTS, v);
      c.due("short " + v, x.element(1, 0), (short) v);
      Checks.fill(x, 2, Checks.INTS, v);
      c.due("int " + v, x.element(2, 0), v);
    }
    c.due("the others stay", x.element(0, 0) + x.element(0, 2), 0);
    c.due("answer", x.put(0, 0, 5), 0);
    c.due("shelf -1", x.put(-1, 0, 0), -1);
    c.due("shelf 8", x.put(8, 0, 0), -1);
    c.due("nothing held", x.put(5, 0, 0), -11);
    x.keep(5, 1, 0, 0);
    c.due("a person", x.put(5, 0, 0), -12);
    c.due("i -1", x.put(0, -1, 0), -13);
    c.due("i 3", x.put(0, 3, 0), -13);
    c.due("i far", x.put(0, Integer.MAX_VALUE, 0), -13);
  }

  /** 0 for an answer, 1 for IllegalArgumentException, 2 for IllegalStateException. */
  private static int thrown(YouAreOnMute x, int d, int i) {
    try {
      x.element(d, i);
      return 0;
    } catch (IllegalArgumentException e) {
      return e.getClass() == IllegalArgumentException.class ? 1 : 3;
    } catch (IllegalStateException e) {
      return e.getClass() == IllegalStateException.class ? 2 : 3;
    }
  }

  private static void element() {
    YouAreOnMute x = new YouAreOnMute();
    Checks.fill(x, 0, Checks.INTS, 3, Integer.MIN_VALUE);
    c.due("0", x.element(0, 0), 3);
    c.due("1", x.element(0, 1), Integer.MIN_VALUE);
    c.due("there", thrown(x, 0, 1), 0);
    c.due("shelf -1", thrown(x, -1, 0), 1);
    c.due("shelf 8", thrown(x, 8, -1), 1);
    c.due("nothing held", thrown(x, 1, 0), 2);
    x.keep(1, 1, 0, 0);
    c.due("a person", thrown(x, 1, 0), 2);
    c.due("i -1", thrown(x, 0, -1), 2);
    c.due("i 2", thrown(x, 0, 2), 2);
    c.due("i far", thrown(x, 0, Integer.MIN_VALUE), 2);
  }

  private static String told(YouAreOnMute x, int d, int n) {
    StringBuilder s = new StringBuilder();
    for (int i = 0; i < n; i++) {
      s.append(x.element(d, i)).append(' ');
    }
    return s.toString();
  }

  private static void isTold(String what, String got, String due) {
    c.due(what + " (" + got + ")", got.equals(due) ? 1 : 0, 1);
  }

  private static void copy() {
    YouAreOnMute x = new YouAreOnMute();
    Checks.fill(x, 0, Checks.SHORTS, 1, 2, 3, 4, 5);
    Checks.fill(x, 1, Checks.SHORTS, 10, 20, 30);
    c.due("two", x.copy(0, 3, 1, 1, 2), 2);
    isTold("came", told(x, 1, 3), "10 4 5 ");
    isTold("stay", told(x, 0, 5), "1 2 3 4 5 ");
    c.due("none at the end", x.copy(0, 5, 1, 3, 0), 0);
    c.due("forth in one row", x.copy(0, 0, 0, 1, 4), 4);
    isTold("forth", told(x, 0, 5), "1 1 2 3 4 ");
    c.due("back in one row", x.copy(0, 1, 0, 0, 4), 4);
    isTold("back", told(x, 0, 5), "1 2 3 4 4 ");
    c.due("whole", x.copy(1, 0, 0, 0, 3), 3);
    isTold("whole", told(x, 0, 5), "10 4 5 4 4 ");
    c.due("onto itself", x.copy(0, 0, 0, 0, 5), 5);
  }

  private static void copyRefusals() {
    YouAreOnMute x = new YouAreOnMute();
    Checks.fill(x, 0, Checks.SHORTS, 1, 2, 3, 4, 5);
    Checks.fill(x, 1, Checks.SHORTS, 10, 20, 30);
    Checks.fill(x, 2, Checks.INTS, 10, 20, 30);
    x.keep(3, 1, 0, 0);
    c.due("from -1", x.copy(-1, 0, 0, 0, 0), -1);
    c.due("from 8", x.copy(8, 0, 0, 0, 0), -1);
    c.due("to -1", x.copy(4, 0, -1, 0, 0), -1);
    c.due("to 8", x.copy(4, 0, 8, 0, 0), -1);
    c.due("from nothing", x.copy(4, 0, 0, 0, 0), -11);
    c.due("to nothing", x.copy(0, 0, 4, 0, 0), -11);
    c.due("from a person to nothing", x.copy(3, 0, 4, 0, 0), -11);
    c.due("from a person", x.copy(3, 0, 0, 0, 0), -12);
    c.due("to a person", x.copy(0, 0, 3, 0, 0), -12);
    x.row(5, Checks.BYTES, 0);
    c.due("from a person to bytes", x.copy(3, 0, 5, 0, 0), -12);
    c.due("to a person from bytes", x.copy(5, 0, 3, 0, 0), -12);
    c.due("a person to itself", x.copy(3, 0, 3, 0, 0), -12);
    c.due("another sort", x.copy(0, 0, 2, 0, 1), -12);
    int max = Integer.MAX_VALUE;
    int min = Integer.MIN_VALUE;
    int[][] wrong = {{-1, 0, 1}, {0, -1, 1}, {0, 0, -1}, {0, 0, 4}, {0, 1, 3}, {4, 0, 2}, {6, 0, 0},
        {0, 4, 0}, {max, 0, 1}, {1, 0, max}, {0, 1, max}, {max, max, max}, {min, min, min}, {2, 2, min},
        {min, 0, min}};
    for (int[] w : wrong) {
      c.due("copy " + java.util.Arrays.toString(w), x.copy(0, w[0], 1, w[1], w[2]), -13);
    }
    isTold("nothing came", told(x, 1, 3), "10 20 30 ");
  }

  private static void costAndToss() {
    // Kind, figure, cost, failure.
    int[][] due = {{0, 0, 4, -15}, {0, 5, 4, 5}, {1, 0, 4, -15}, {1, 5, 9, 105}, {2, 0, 2, -15},
        {2, 5, 2, 5}, {3, 0, 11, -15}, {3, 5, 11, 5}, {4, 0, 2, -15}, {4, 5, 2, -15}, {5, 0, 8, -15},
        {5, 5, 18, 218}, {6, 0, 2, -15}, {6, 5, 7, 5}, {7, 0, 3, -15}, {7, 5, 3, -15}, {0, 1, 4, 1},
        {1, 1, 5, 101}, {5, 1, 10, 210}};
    YouAreOnMute x = new YouAreOnMute();
    for (int[] one : due) {
      x.keep(2, 1, one[0], one[1]);
      c.due("cost of kind " + one[0] + ", figure " + one[1], x.cost(2), one[2]);
      c.due("failure of kind " + one[0] + ", figure " + one[1], x.toss(2), one[3]);
      c.due("it stays", x.cost(2), one[2]);
    }
    x.row(2, Checks.BYTES, 1);
    for (int d = -1; d <= 8; d++) {
      int refusal = d < 0 || d > 7 ? -1 : d == 2 ? -12 : -11;
      c.due("cost of shelf " + d, x.cost(d), refusal);
      c.due("failure of shelf " + d, x.toss(d), refusal);
    }
  }
}
