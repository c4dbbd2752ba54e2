import java.io.IOException;
import java.lang.reflect.Method;
import java.lang.reflect.Modifier;
import java.nio.file.Files;
import java.nio.file.Path;
import java.util.regex.Matcher;
import java.util.regex.Pattern;

/** README.md tells of each call and each test, and what its example says is so. */
public final class ReadmeTest {
  private static final Checks c = new Checks("ReadmeTest");

  public static void main(String[] args) throws IOException, ReflectiveOperationException {
    String page = Files.readString(Path.of("README.md"));
    everyCall(page);
    everyTest(page);
    example(page);
    c.end();
  }

  private static void everyCall(String page) {
    int calls = 0;
    for (Method m : YouAreOnMute.class.getDeclaredMethods()) {
      if (Modifier.isPublic(m.getModifiers())) {
        String takes = "\\w+" + ", \\w+".repeat(Math.max(0, m.getParameterCount() - 1));
        Pattern line = Pattern.compile("(?m)^\\| `" + m.getName() + "\\("
            + (m.getParameterCount() == 0 ? "" : takes) + "\\)` \\| .+ \\|$");
        c.due("a line on " + m.getName(), line.matcher(page).find() ? 1 : 0, 1);
        calls++;
      }
    }
    Matcher lines = Pattern.compile("(?m)^\\| `\\w+\\(.*\\)` \\|").matcher(page);
    c.due("lines on calls", lines.results().count(), calls);
  }

  private static void everyTest(String page) throws IOException {
    try (var files = Files.list(Path.of("src/test/java"))) {
      for (Path file : (Iterable<Path>) files::iterator) {
        String name = file.getFileName().toString().replace(".java", "");
        if (name.endsWith("Test")) {
          c.due("a line on " + name, page.contains("| `" + name + "` |") ? 1 : 0, 1);
        }
      }
    }
  }

  private static void example(String page) throws ReflectiveOperationException {
    YouAreOnMute x = new YouAreOnMute();
    Matcher line = Pattern.compile("(?m)^x\\.(\\w+)\\((.*)\\);(?:.*: (\\d+))?").matcher(page);
    int told = 0;
    while (line.find()) {
      String[] words = line.group(2).split(", ");
      Object[] with = new Object[words.length];
      Class<?>[] types = new Class<?>[words.length];
      for (int i = 0; i < words.length; i++) {
        with[i] = Integer.valueOf(words[i]);
        types[i] = int.class;
      }
      Object answer = YouAreOnMute.class.getMethod(line.group(1), types).invoke(x, with);
      if (line.group(3) != null) {
        c.same(line.group(), answer.toString(), line.group(3));
        told++;
      }
    }
    c.due("answers told in the example", told, 6);
    Matcher text = Pattern.compile("`((?:[stmohl]\\d+;)+)` for the example").matcher(page);
    c.due("the example as a text", text.find() ? 1 : 0, 1);
    c.same("both ways", Checks.all(Checks.told(text.group(1))), Checks.all(x));
  }
}
