import java.lang.reflect.Constructor;
import java.lang.reflect.Field;
import java.lang.reflect.Method;
import java.lang.reflect.Modifier;
import java.util.Arrays;
import java.util.Set;
import java.util.TreeSet;

/** The public face: all that the document has, and nothing else. */
public final class FaceTest {
  private static final Checks c = new Checks("FaceTest");

  private static final String[] FACE = {"house(int)", "square(int,int)", "comes(int,int)", "mutes(int)",
      "goes(int)", "hands(int)", "turns(int,int)", "laughs(int)", "pause(int)", "rule(int,int,int)",
      "bestRule(int)", "drowns(int)", "told(int,int)", "quickest(int)", "silence()", "object(int)",
      "again(int,int,int)", "next(int)", "waiting(int)", "two(int,int)", "chat(int)", "truly(int)",
      "spirits(int)", "bears(int,int)", "cooked(int,int,int)", "forged(int,int)", "judge(int)",
      "meetings(int,int,int)", "image()", "restore()", "count(int)", "keep(int,int,int,int)",
      "row(int,int,int)", "put(int,int,int)", "element(int,int)", "copy(int,int,int,int,int)",
      "cost(int)", "toss(int)"};

  public static void main(String[] args) {
    Class<?> face = YouAreOnMute.class;
    c.due("public and final", face.getModifiers(), Modifier.PUBLIC | Modifier.FINAL);
    Set<String> due = new TreeSet<>(Arrays.asList(FACE));
    Set<String> names = new TreeSet<>();
    for (String one : FACE) {
      names.add(one.substring(0, one.indexOf('(')));
    }
    for (Method m : face.getDeclaredMethods()) {
      if (Modifier.isPrivate(m.getModifiers())) {
        c.due("a private method named " + m.getName(), names.contains(m.getName()) ? 1 : 0, 0);
        continue;
      }
      StringBuilder s = new StringBuilder(m.getName()).append('(');
      for (int i = 0; i < m.getParameterCount(); i++) {
        s.append(i > 0 ? "," : "").append(m.getParameterTypes()[i].getName());
      }
      String told = s.append(')').toString();
      c.due(told + " is of the face", due.remove(told) ? 1 : 0, 1);
      c.due(told + " is public alone", m.getModifiers(), Modifier.PUBLIC);
      boolean element = m.getName().equals("element");
      c.due(told + " answers", m.getReturnType() == (element ? long.class : int.class) ? 1 : 0, 1);
      c.due(told + " throws", m.getExceptionTypes().length, element ? 2 : 0);
    }
    c.due("missing " + due, due.size(), 0);
    for (Field f : face.getDeclaredFields()) {
      c.due("private " + f.getName(), Modifier.isPrivate(f.getModifiers()) ? 1 : 0, 1);
      c.due("no static state " + f.getName(),
          !Modifier.isStatic(f.getModifiers()) || Modifier.isFinal(f.getModifiers()) ? 1 : 0, 1);
    }
    Constructor<?>[] made = face.getDeclaredConstructors();
    c.due("one constructor", made.length, 1);
    c.due("without parameters", made[0].getParameterCount(), 0);
    for (Class<?> inside : face.getDeclaredClasses()) {
      c.due("static " + inside.getName(), Modifier.isStatic(inside.getModifiers()) ? 1 : 0, 1);
      c.due("hidden " + inside.getName(), Modifier.isPublic(inside.getModifiers()) ? 1 : 0, 0);
      for (Method m : inside.getDeclaredMethods()) {
        c.due("inside, a method named " + m.getName(), names.contains(m.getName()) ? 1 : 0, 0);
      }
    }
    c.end();
  }
}
