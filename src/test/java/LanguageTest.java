import java.io.IOException;
import java.nio.file.Files;
import java.nio.file.Path;

/** The class keeps to ../shared/LANGUAGE.md, as far as a reader of its source can tell. */
public final class LanguageTest {
  private static final Checks c = new Checks("LanguageTest");

  public static void main(String[] args) throws IOException {
    LanguageRules rules = LanguageRules.read(Files.readString(Path.of("src/main/java/YouAreOnMute.java")));
    for (String broken : rules.broken()) {
      c.same("the class breaks a rule", broken, "");
    }
    c.due("methods read", rules.methods > 100 ? 1 : 0, 1);
    c.due("calls followed", rules.deepest > 4 ? 1 : 0, 1);
    brokenOnes();
    c.end();
  }

  /** A reader that finds nothing would pass all: each of these is to be found. */
  private static void brokenOnes() throws IOException {
    finds(0, "private int good(int a) { return a > 0 ? Math.max(a, 3) : 0; }");
    finds(2, "private Runnable bad() { return () -> { }; }");
    finds(2, "private java.util.function.IntUnaryOperator bad() { return Math::abs; }");
    finds(2, "private int bad() { class Local { } return new Local() != null ? 1 : 0; }");
    finds(3, "private java.util.Set<Integer> bad = null;");
    finds(3, "private String[] bad = new String[2];");
    finds(3, "private int[][][] bad = null;");
    finds(4, "private int bad() { return Math.addExact(1, 2); }");
    finds(4, "private int bad() { return Integer.MAX_VALUE; }");
    finds(4, "private int bad() { return \"a\".hashCode(); }");
    finds(4, "private Object bad() { return new java.util.Random(1); }");
    finds(4, "private static final String BAD = \"\u00e9\";");
    finds(4, "@Deprecated private int bad() { return 0; }");
    finds(5, "private static int bad = 0;");
    finds(5, "private static final int BAD; static { BAD = 1; }");
    finds(5, "private static final YouAreOnMute BAD = null;");
    finds(6, "public YouAreOnMute() { throw new IllegalStateException(); }");
    finds(6, "private void bad() { throw new Error(\"bad\"); }");
    finds(6, "private void bad(String s) { throw new IllegalStateException(s); }");
    finds(6, "private void bad() { try { bad2(); } catch (ArithmeticException e) { } } private void bad2() { }");
    finds(6, "private void bad() { try { bad2(); } catch (RuntimeException e) { } } private void bad2() { }");
    finds(6, "private void bad() { try { bad2(); } finally { } } private void bad2() { }");
    finds(6, "private void bad() { try { throw new IllegalStateException(); } "
        + "catch (IllegalStateException e) { } }");
    finds(6, "private void bad() { try { bad2(); } catch (IllegalStateException e) { throw e; } } "
        + "private void bad2() { }");
    finds(6, "private void bad() { synchronized (this) { } }");
    finds(6, "private void bad(int a) { assert a > 0; }");
    finds(6, "private boolean bad(String a, String b) { return a == b; }");
    finds(6, "public String toString() { return \"bad\"; }");
    finds(8, "private int bad(int a) { return a > 0 ? bad(a - 1) : 0; }");
    finds(8, "private int bad(int a) { return a > 0 ? worse(a) : 0; } private int worse(int a) { return bad(a); }");
    finds(9, "private void bad() { while (true) { } }");
    finds(9, "private void bad() { for (;;) { } }");
    finds(10, "private String bad(int a) { return \"a\" + a; }");
    finds(10, "private void bad(String a) { a += 1; }");
    finds(11, "private int bad(int a, int b, int d, int e, int f, int g, int h, int i) { return a; }");
    finds(11, "private void bad() { " + "\n".repeat(60) + " }");
    finds(11, many("private int f%d;", 21));
    finds(11, many("private static class C%d { }", 12));
    finds(11, many("private void m%d() { m%e(); }", 9) + "private void m9() { }");
    finds(11, "private void go(C0 a) { a.m(); } " + many("private static class C%d%x { void m() { super.m(); } }", 9)
        .replace("C0%x { void m() { super.m(); } }", "C0 { void m() { } }").replace("%x", ""));
  }

  private static String many(String one, int times) {
    StringBuilder s = new StringBuilder();
    for (int i = 0; i < times; i++) {
      s.append(one.replace("%d", "" + i).replace("%e", "" + (i + 1)).replace("%x",
          i == 0 ? "%x" : " extends C" + (i - 1)));
    }
    return s.toString();
  }

  /** Rule 0: that none is broken. */
  private static void finds(int rule, String members) throws IOException {
    LanguageRules rules = LanguageRules.read("public final class YouAreOnMute {\n" + members + "\n}\n");
    boolean found = rules.broken().isEmpty() ? rule == 0
        : rules.broken().stream().anyMatch(broken -> broken.startsWith(rule + ":"));
    c.same(members + ": " + rules.broken(), found ? "found" : "not found", "found");
  }
}
