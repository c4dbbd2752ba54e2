import java.lang.reflect.InvocationTargetException;
import java.lang.reflect.Method;
import java.util.ArrayList;
import java.util.Arrays;
import java.util.HashMap;
import java.util.List;
import java.util.Map;
import java.util.Random;
import java.util.TreeMap;

/** The class and SecondWriting answer long runs of calls alike. */
public final class SecondWritingTest {
  private static final Checks c = new Checks("SecondWritingTest");
  private static final int RUNS = 3000;
  private static final int CALLS = 500;
  private static final int[] STRANGE = {-1, -2, 8, 9, 10, 99, 100, 101, 999, 1000, -128, 127, 128, -32768,
      Integer.MIN_VALUE, Integer.MAX_VALUE};

  private static final Map<String, Method> ofClass = new TreeMap<>();
  private static final Map<String, Method> ofSecond = new HashMap<>();
  private static final Map<String, Integer> answered = new HashMap<>();
  private static final List<String> names = new ArrayList<>();

  private final Random random;
  private final int run;
  private final YouAreOnMute x = new YouAreOnMute();
  private final SecondWriting second = new SecondWriting();
  private int calls = 0;
  private boolean alike = true;

  private SecondWritingTest(int run) {
    this.run = run;
    random = new Random(1000 + run);
  }

  public static void main(String[] args) {
    find(YouAreOnMute.class, ofClass);
    find(SecondWriting.class, ofSecond);
    c.due("calls written twice", ofSecond.keySet().equals(ofClass.keySet()) ? 1 : 0, 1);
    names.addAll(ofClass.keySet());
    int unlike = 0;
    for (int run = 0; run < RUNS && unlike < 5; run++) {
      unlike += new SecondWritingTest(run).goOn() ? 0 : 1;
    }
    for (String name : names) {
      // Refusals alone would hold little of a call against the other.
      c.due(name + " answered often", answered.getOrDefault(name, 0) > 1000 ? 1 : 0, 1);
    }
    c.end();
  }

  private static void find(Class<?> type, Map<String, Method> into) {
    for (Method m : type.getDeclaredMethods()) {
      if (java.lang.reflect.Modifier.isPublic(m.getModifiers())) {
        m.setAccessible(true);
        into.put(m.getName(), m);
      }
    }
  }

  private boolean goOn() {
    if (run % 6 == 0) {
      passTime();
    }
    while (alike && calls < CALLS - 110) {
      switch (random.nextInt(12)) {
        case 0: tellText(); break;
        case 1: someoneComes(); break;
        case 2: record(); break;
        case 3: judged(); break;
        case 4: answeredIn(); break;
        case 5: shelf(); break;
        case 6: fullHouse(); break;
        default: anyCalls(); break;
      }
    }
    return alike;
  }

  /** One call on both; the answers are to be the same. */
  private long both(String name, Object... with) {
    calls++;
    String got = outcome(ofClass.get(name), x, with);
    String want = outcome(ofSecond.get(name), second, with);
    if (!got.equals(want)) {
      alike = false;
      c.same("run " + run + ", call " + calls + ", " + name + Arrays.toString(with), got, want);
    }
    boolean refused = want.startsWith("-") && !want.equals("-4");
    if (!refused && !want.startsWith("throws")) {
      answered.merge(name, 1, Integer::sum);
      return Long.parseLong(want);
    }
    return -1;
  }

  private static String outcome(Method m, Object on, Object[] with) {
    try {
      return m.invoke(on, with).toString();
    } catch (InvocationTargetException e) {
      return "throws " + e.getCause().getClass().getSimpleName();
    } catch (IllegalAccessException e) {
      throw new IllegalStateException(e);
    }
  }

  private void anyCalls() {
    for (int i = 0; i < 12; i++) {
      anyCall();
    }
  }

  private void anyCall() {
    String name = names.get(random.nextInt(names.size()));
    Object[] with = new Object[ofClass.get(name).getParameterCount()];
    int below = random.nextBoolean() ? 7 : 3;
    for (int i = 0; i < with.length; i++) {
      with[i] = random.nextInt(20) == 0 ? STRANGE[random.nextInt(STRANGE.length)] : random.nextInt(below);
    }
    if ((name.equals("turns") || name.equals("again")) && random.nextBoolean()) {
      with[1] = 1 + random.nextInt(99);
    }
    if ((name.equals("object") || name.equals("chat")) && random.nextBoolean()) {
      with[0] = random.nextInt(90);
    }
    if (name.equals("meetings") && random.nextBoolean()) {
      with[0] = 1 + random.nextInt(20);
      with[1] = random.nextInt();
      with[2] = random.nextInt(2);
    }
    both(name, with);
  }

  private void write(int d, String text) {
    both("row", d, 0, text.length());
    for (int i = 0; i < text.length(); i++) {
      both("put", d, i, (int) text.charAt(i));
    }
  }

  private String statement() {
    switch (random.nextInt(7)) {
      case 0: return "s" + random.nextInt(8) + random.nextInt(10) + random.nextInt(10) + ";";
      case 1: return "t" + random.nextInt(6) + random.nextInt(10) + random.nextInt(10) + ";";
      default: return "" + "mohlhl".charAt(random.nextInt(6)) + random.nextInt(6) + ";";
    }
  }

  private void tellText() {
    StringBuilder text = new StringBuilder();
    int statements = 1 + random.nextInt(5);
    for (int i = 0; i < statements; i++) {
      text.append(statement());
    }
    if (random.nextInt(5) == 0) {
      text.setCharAt(random.nextInt(text.length()), "s90;:/tx\u00b0\u00ff".charAt(random.nextInt(10)));
    }
    if (random.nextInt(8) == 0) {
      text.setLength(random.nextInt(text.length()));
    }
    write(7, text.toString());
    both("house", 7);
  }

  /** Nearly to the clock's end. */
  private void passTime() {
    both("keep", 6, 1, random.nextInt(8), random.nextInt(10));
    both("comes", 6, random.nextInt(10));
    write(7, "t099;".repeat(20));
    for (int i = 0; i < 5; i++) {
      both("house", 7);
    }
    both("turns", 0, 1 + random.nextInt(99));
  }

  /** As many as there is room for, of kinds that clash now and then. */
  private void fullHouse() {
    if (random.nextInt(4) > 0) {
      return;
    }
    StringBuilder text = new StringBuilder();
    for (int i = (int) both("count", 0); i < 6; i++) {
      text.append('s').append("01255360".charAt(random.nextInt(8))).append(random.nextInt(10))
          .append(random.nextInt(10)).append(';');
    }
    if (text.length() > 0) {
      write(7, text.toString());
      both("house", 7);
    }
    for (int what = 0; what < 3; what++) {
      both("pause", what);
      both("waiting", what);
    }
    both("image");
  }

  private void someoneComes() {
    both("keep", 6, 1, random.nextInt(8), random.nextInt(10));
    both("comes", 6, random.nextInt(10));
    both("cost", 6);
    both("toss", 6);
  }

  private void record() {
    int size = (int) both("count", 0);
    int f = random.nextInt(4) == 0 ? 0 : random.nextInt(10);
    int cook = random.nextInt(6);
    int pairs = random.nextInt(8);
    both("row", 5, random.nextInt(3), 2 * pairs + (random.nextInt(12) == 0 ? 1 : 0));
    for (int i = 0; i < pairs; i++) {
      int muted = size == 0 || random.nextInt(3) == 0 ? 9 : random.nextInt(size);
      boolean forged = random.nextInt(12) == 0;
      both("put", 5, 2 * i, random.nextInt(40) == 0 ? STRANGE[random.nextInt(STRANGE.length)] : muted);
      both("put", 5, 2 * i + 1, forged ? random.nextInt(11) : muted == cook ? 0 : f);
    }
    both("cooked", 5, f, 0);
    both("cooked", 5, f, 1);
    both("forged", 5, f);
  }

  private void judged() {
    int sort = random.nextInt(3);
    int n = random.nextInt(9);
    int[] due = second.speakers(n);
    both("row", 4, sort, n);
    for (int i = 0; i < n; i++) {
      int least = new int[] {-128, -32768, Integer.MIN_VALUE}[sort];
      int told = random.nextInt(25) == 0 ? random.nextInt(10) : due[i];
      both("put", 4, i, random.nextInt(8) == 0 ? least : told);
    }
    both("judge", 4);
  }

  private void answeredIn() {
    int size = (int) both("count", 0);
    int n = random.nextInt(10) == 0 ? size + 1 : random.nextInt(size + 1);
    int sort = random.nextInt(3);
    both("row", 3, sort, n);
    for (int q = 0; q < n; q++) {
      int edge = q < size ? (int) (both("square", q, 7)
          + (random.nextBoolean() ? both("square", q, 9) + both("square", q, 2) : 0)) : 0;
      boolean skipped = random.nextInt(8) == 0;
      both("put", 3, q, skipped ? Integer.MIN_VALUE >> new int[] {24, 16, 0}[sort] : edge + random.nextInt(5) - 2);
    }
    both("truly", 3);
  }

  private void shelf() {
    int d = random.nextInt(3);
    int e = random.nextInt(3);
    if (random.nextInt(3) == 0) {
      both("row", d, random.nextInt(3), random.nextInt(12));
    }
    both("put", d, random.nextInt(12), random.nextInt());
    both("copy", d, random.nextInt(6), e, random.nextInt(6), random.nextInt(6));
    both("element", e, random.nextInt(10));
    both("element", d, random.nextInt(10));
    both("square", random.nextInt(6), random.nextInt(11));
    both("count", random.nextInt(8));
  }
}
