import java.lang.reflect.Method;
import java.lang.reflect.Modifier;
import java.nio.file.Files;
import java.nio.file.Path;
import java.util.ArrayList;
import java.util.List;
import java.util.regex.Matcher;
import java.util.regex.Pattern;
import java.util.stream.Stream;

/** README.md says how to use the class and how to run its tests: its examples hold, and nothing is left out. */
public final class ReadmeTests {
  private static final Pattern CALL = Pattern.compile("x\\.(\\w+)\\(([^)]*)\\);\\s*// (-?\\d+):.*");
  private static int wrong = 0;

  private static void demand(boolean holds, String what) {
    if (!holds) {
      wrong++;
      System.out.println(what);
    }
  }

  private static List<String> blocks(String page, String kind) {
    List<String> found = new ArrayList<>();
    Matcher m = Pattern.compile("(?s)```" + kind + "\n(.*?)```").matcher(page);
    while (m.find()) { found.add(m.group(1)); }
    demand(!found.isEmpty(), "no example of " + kind);
    return found;
  }

  private static Method method(String name) {
    for (Method m : FrontChairs.class.getDeclaredMethods()) {
      if (m.getName().equals(name) && Modifier.isPublic(m.getModifiers())) { return m; }
    }
    return null;
  }

  private static void calls(String example) throws Exception {
    FrontChairs x = new FrontChairs();
    int made = 0;
    for (String line : example.split("\n")) {
      Matcher m = CALL.matcher(line);
      if (!m.matches()) {
        demand(line.equals("FrontChairs x = new FrontChairs();"), "no call with its answer: " + line);
        continue;
      }
      Method called = method(m.group(1));
      String[] told = m.group(2).split(", ");
      Object[] arguments = new Object[told.length];
      for (int i = 0; i < told.length; i++) { arguments[i] = Integer.valueOf(told[i]); }
      long got = called == null ? 0 : ((Number) called.invoke(x, arguments)).longValue();
      demand(called != null && got == Long.parseLong(m.group(3)), "answered " + got + ": " + line);
      made++;
    }
    demand(made > 0, "no calls in: " + example);
  }

  private static void text(String beach) {
    FrontChairs x = new FrontChairs();
    StringBuilder s = new StringBuilder(beach);
    while (s.length() % 20 != 0) { s.append(' '); }
    for (int i = 0; i < s.length(); i += 20) {
      int[] w = new int[5];
      for (int j = 0; j < 20; j++) { w[j / 4] = w[j / 4] << 8 | s.charAt(i + j) & 255; }
      x.feed(w[0], w[1], w[2], w[3], w[4]);
    }
    int lines = x.beach(beach.length());
    demand(lines == beach.split("\n").length, "answered " + lines + ", fault at " + x.fault(1) + ": " + beach);
  }

  public static void main(String[] args) throws Exception {
    String page = Files.readString(Path.of("README.md"));
    for (String example : blocks(page, "java")) { calls(example); }
    for (String beach : blocks(page, "text")) { text(beach); }
    for (Method m : FrontChairs.class.getDeclaredMethods()) {
      boolean face = Modifier.isPublic(m.getModifiers());
      demand(!face || page.contains("`" + m.getName() + "`"), "README.md doesn't name " + m.getName());
    }
    try (Stream<Path> tests = Files.list(Path.of("src/test/java"))) {
      for (Path test : tests.sorted().toList()) {
        String name = test.getFileName().toString().replace(".java", "");
        demand(page.contains("`" + name + "`"), "README.md doesn't name " + name);
      }
    }
    demand(page.contains(".ci/run"), "README.md doesn't say how to run the tests");
    System.out.println(wrong == 0 ? "README.md holds" : wrong + " things of README.md don't hold");
    if (wrong != 0) { System.exit(1); }
  }
}
