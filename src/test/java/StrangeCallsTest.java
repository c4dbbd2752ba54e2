import java.lang.reflect.InvocationTargetException;
import java.lang.reflect.Method;
import java.util.Arrays;
import java.util.Comparator;
import java.util.Random;

/** Any call in any state answers, or throws what element tells; the same calls answer the same. */
public final class StrangeCallsTest {
  private static final Checks c = new Checks("StrangeCallsTest");
  private static final int[] STRANGE = {-1, 10, 11, 99, 100, 101, 999, 1000, -32768, Integer.MIN_VALUE,
      Integer.MAX_VALUE, Integer.MAX_VALUE - 1, -128, 127};

  private static Method[] face;

  public static void main(String[] args) throws IllegalAccessException {
    face = YouAreOnMute.class.getDeclaredMethods();
    face = Arrays.stream(face).filter(m -> java.lang.reflect.Modifier.isPublic(m.getModifiers()))
        .sorted(Comparator.comparing(Method::getName)).toArray(Method[]::new);
    for (int run = 0; run < 3000; run++) {
      long first = answers(run);
      c.due("run " + run + " again", answers(run), first);
    }
    c.end();
  }

  private static long answers(int run) throws IllegalAccessException {
    Random random = new Random(run);
    YouAreOnMute x = new YouAreOnMute();
    long all = 0;
    for (int call = 0; call < 512; call++) {
      Method m = face[random.nextInt(face.length)];
      if (random.nextInt(3) == 0) {
        if (random.nextInt(2) == 0) {
          Checks.come(x, random.nextInt(8), random.nextInt(10), random.nextInt(10));
        } else {
          all = 31 * all + Checks.tell(x, text(random));
        }
        call += 40;
      }
      Object[] with = new Object[m.getParameterCount()];
      for (int i = 0; i < with.length; i++) {
        with[i] = random.nextInt(12) == 0 ? STRANGE[random.nextInt(STRANGE.length)] : random.nextInt(8);
      }
      all = 31 * all + answer(x, m, with);
    }
    return all;
  }

  private static String text(Random random) {
    StringBuilder s = new StringBuilder();
    int statements = 1 + random.nextInt(6);
    for (int i = 0; i < statements; i++) {
      char letter = "smohlt".charAt(random.nextInt(6));
      s.append(letter);
      int digits = letter == 's' || letter == 't' ? 3 : 1;
      for (int k = 0; k < digits; k++) {
        s.append((char) ('0' + random.nextInt(k == 0 ? 4 : 10)));
      }
      s.append(random.nextInt(30) == 0 ? ':' : ';');
    }
    return s.toString();
  }

  private static long answer(YouAreOnMute x, Method m, Object[] with) throws IllegalAccessException {
    try {
      return ((Number) m.invoke(x, with)).longValue();
    } catch (InvocationTargetException e) {
      Class<?> thrown = e.getCause().getClass();
      boolean told = m.getName().equals("element")
          && (thrown == IllegalArgumentException.class || thrown == IllegalStateException.class);
      c.due(m.getName() + Arrays.toString(with) + " throws " + e.getCause(), told ? 1 : 0, 1);
      return thrown == IllegalArgumentException.class ? 1 : 2;
    }
  }
}
