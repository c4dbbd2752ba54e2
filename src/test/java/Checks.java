/** What the tests share: asked answers are compared, and houses are told shortly. */
final class Checks {
  static final int BYTES = 0;
  static final int SHORTS = 1;
  static final int INTS = 2;

  static final int PERSON = 0;
  static final int POLITE = 1;
  static final int EAGER = 2;
  static final int COOK = 3;
  static final int FROZEN = 4;
  static final int SHY = 5;
  static final int CHAIR = 6;
  static final int GHOST = 7;

  private final String name;
  private int asked = 0;
  private int wrong = 0;
  private String sentence = "";
  private int sentences = 0;
  private int askedOfSentence = 1;

  Checks(String name) {
    this.name = name;
  }

  /** The checks from here on hold to this sentence of the document. */
  void sentence(String words) {
    endSentence();
    sentence = words;
    sentences++;
    askedOfSentence = 0;
  }

  // A sentence that nothing is asked of would pass unseen.
  private void endSentence() {
    if (askedOfSentence == 0) {
      wrong++;
      System.out.println(name + ": nothing was asked of \"" + sentence + "\"");
    }
  }

  void due(String what, long got, long want) {
    asked++;
    askedOfSentence++;
    if (got != want) {
      wrong++;
      System.out.println(name + ": " + what + " answered " + got + ", due is " + want
          + (sentence.isEmpty() ? "" : " (\"" + sentence + "\")"));
    }
  }

  void same(String what, String got, String want) {
    due(what + " [" + got + "] as [" + want + "]", got.equals(want) ? 1 : 0, 1);
  }

  void end() {
    endSentence();
    System.out.println(name + ": " + asked + " answers" + (sentences > 0 ? " to " + sentences
        + " sentences" : "") + ", " + wrong + " not as due");
    if (wrong > 0 || asked == 0) {
      System.exit(1);
    }
  }

  /** A new object with the house of the text, if it has no fault. */
  static YouAreOnMute told(String text) {
    YouAreOnMute x = new YouAreOnMute();
    tell(x, text);
    return x;
  }

  /** Tells a house by shelf 7. */
  static int tell(YouAreOnMute x, String text) {
    write(x, 7, text);
    return x.house(7);
  }

  static void write(YouAreOnMute x, int d, String text) {
    x.row(d, BYTES, text.length());
    for (int i = 0; i < text.length(); i++) {
      x.put(d, i, text.charAt(i));
    }
  }

  static void fill(YouAreOnMute x, int d, int sort, int... values) {
    x.row(d, sort, values.length);
    for (int i = 0; i < values.length; i++) {
      x.put(d, i, values[i]);
    }
  }

  /** One more square, by shelf 6. */
  static int come(YouAreOnMute x, int kind, int figure, int lag) {
    x.keep(6, 1, kind, figure);
    return x.comes(6, lag);
  }

  /** All that the document tells of the object now, in one text. */
  static String all(YouAreOnMute x) {
    StringBuilder s = new StringBuilder();
    for (int what = 0; what <= 7; what++) {
      s.append(x.count(what)).append(' ');
    }
    for (int q = 0; q < 6; q++) {
      for (int what = 0; what <= 6; what++) {
        s.append(x.square(q, what)).append(' ');
      }
    }
    return s.toString();
  }
}
