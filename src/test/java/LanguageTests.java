import java.lang.reflect.Field;
import java.lang.reflect.Method;
import java.lang.reflect.Modifier;
import java.nio.file.Files;
import java.nio.file.Path;
import java.util.ArrayList;
import java.util.List;
import java.util.Set;
import java.util.TreeSet;

/** The rules of LANGUAGE.md that can be seen from the class and from its source's words. */
public final class LanguageTests {
  private static final String[] FACE = {
    "feed int int int int int int", "beach int int", "fault int int", "chair int int int", "person int int int",
    "tide int int", "moves boolean int int int", "wets int int int int", "rise int int", "sit int int int",
    "swap int int int", "minutes int int", "undo int int", "judge int int int", "perform int int",
    "afternoon int int int", "sits int int int", "wetIn int int", "wetBy int int", "frontIn int int", "front int int",
    "king int int", "bring int int int int", "faints int int int int", "round int int", "stir int",
    "hands int int int", "relay int int", "cut int int int", "heaps int", "dry long int int int", "driest int int",
    "where int int int", "changed int int int", "changedAt int int int int", "sure int int int", "look int int int",
    "tray void int int int", "write long int int long", "copy int int int", "image void int", "restore void int",
    "count int int"};
  private static final String[] FORBIDDEN = {"->", "::", "try", "catch", "finally", "synchronized", "assert", "hashCode",
    "toString", "System.out", "Exact", "Random", "instanceof", "protected", "package"};
  private static int wrong = 0;

  private static void demand(boolean holds, String what) {
    if (!holds) {
      wrong++;
      System.out.println(what);
    }
  }

  private static void face() {
    Set<String> got = new TreeSet<>();
    for (Method m : FrontChairs.class.getDeclaredMethods()) {
      if (m.isSynthetic()) { continue; }
      if (!Modifier.isPrivate(m.getModifiers())) {
        StringBuilder s = new StringBuilder(m.getName() + " " + m.getReturnType());
        for (Class<?> c : m.getParameterTypes()) { s.append(' ').append(c); }
        got.add(s.toString());
        demand(Modifier.isPublic(m.getModifiers()) && !Modifier.isStatic(m.getModifiers()), "rule 1: " + m);
      }
    }
    demand(got.equals(new TreeSet<>(List.of(FACE))), "rule 1: the face is " + got);
    demand(Modifier.isFinal(FrontChairs.class.getModifiers()), "rule 1: not final");
    for (Field f : FrontChairs.class.getDeclaredFields()) {
      boolean told = f.getName().equals("NONE") && Modifier.isPublic(f.getModifiers());
      demand(told || Modifier.isPrivate(f.getModifiers()), "rule 1: " + f);
    }
    demand(FrontChairs.class.getDeclaredConstructors().length == 1, "rule 1: constructors");
  }

  private static void classes() {
    List<Class<?>> all = new ArrayList<>(List.of(FrontChairs.class.getDeclaredClasses()));
    Set<String> names = new TreeSet<>();
    for (String s : FACE) { names.add(s.substring(0, s.indexOf(' '))); }
    demand(all.size() < 12, "rule 11: classes");
    all.add(FrontChairs.class);
    for (Class<?> c : all) {
      if (c != FrontChairs.class) { demand(Modifier.isStatic(c.getModifiers()), "rule 1: " + c); }
      int fields = 0;
      for (Field f : c.getDeclaredFields()) {
        if (Modifier.isStatic(f.getModifiers())) {
          boolean plain = f.getType() == int.class || f.getType() == long.class || f.getType() == String.class;
          demand(plain && Modifier.isFinal(f.getModifiers()), "rule 5: " + f);
        } else {
          fields++;
        }
      }
      demand(fields <= 20, "rule 11: fields of " + c);
      for (Method m : c.getDeclaredMethods()) {
        demand(m.getParameterCount() <= 7, "rule 11: " + m);
        boolean ofTheFace = c == FrontChairs.class && Modifier.isPublic(m.getModifiers());
        demand(ofTheFace || !names.contains(m.getName()), "rule 1: " + m);
      }
    }
  }

  private static void source(String text) {
    StringBuilder code = new StringBuilder();
    for (String line : text.split("\n")) {
      String bare = line.strip();
      boolean remark = bare.startsWith("*") || bare.startsWith("/*") || bare.startsWith("//");
      if (!remark) { code.append(bare).append('\n'); }
      if (bare.startsWith("import ")) {
        demand(bare.equals("import java.util.Arrays;") || bare.equals("import java.util.NoSuchElementException;"),
            "rule 4: " + bare);
      }
    }
    for (String word : FORBIDDEN) {
      demand(!code.toString().matches("(?s).*(^|\\W)" + java.util.regex.Pattern.quote(word) + "(\\W|$).*"),
          "not in this class: " + word);
    }
    demand(text.chars().allMatch(c -> c < 128), "rule 4: signs above 127");
    demand(!code.toString().contains("while (true)"), "rule 9: while (true)");
  }

  private static void methodLengths(String text) {
    int from = 0;
    int number = 0;
    for (String line : text.split("\n")) {
      number++;
      boolean head = line.matches(" {4}( {4})?[a-zA-Z].*\\) .*\\{|.*throws .*\\{") && !line.contains("class ");
      if (head) { from = number; }
      if (line.matches(" {4}( {4})?\\}") && from > 0) {
        demand(number - from <= 60, "rule 11: the method from line " + from);
        from = 0;
      }
    }
  }

  public static void main(String[] args) throws Exception {
    String text = Files.readString(Path.of("src/main/java/FrontChairs.java"));
    face();
    classes();
    source(text);
    methodLengths(text);
    System.out.println(wrong == 0 ? "all rules are kept" : wrong + " rules are broken");
    if (wrong != 0) { System.exit(1); }
  }
}
