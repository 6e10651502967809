import java.util.ArrayDeque;
import java.util.ArrayList;
import java.util.Arrays;
import java.util.Deque;
import java.util.List;
import java.util.Random;

/** Texts by chance, spoilt, against a second reader that goes along the tokens with a stack; seeds are fixed. */
public final class FaultTests {
  private static final int TEXTS = 60000;
  private static int wrong = 0;

  // ---- the second reader

  private static final class Token {
    String text;
    int place;
    boolean bad;
    boolean isNumber() { return !bad && Character.isDigit(text.isEmpty() ? ' ' : text.charAt(0)); }
    boolean is(String s) { return !bad && text.equals(s); }
    boolean in(String... all) { return !bad && Arrays.asList(all).contains(text); }
  }

  private static List<Token> tokens(String s) {
    List<Token> all = new ArrayList<>();
    java.util.regex.Matcher m = java.util.regex.Pattern.compile("[a-z]+|[0-9]+|[^a-z0-9]").matcher(s);
    while (m.find()) {
      Token t = new Token();
      t.text = m.group();
      t.place = m.start();
      if (t.text.equals(" ") || t.text.equals("\n")) { continue; }
      t.bad = t.text.matches("[0-9]{4,}") || !t.text.matches("(?s)[a-z0-9]+|[;:+*()=<>\\[\\]-]");
      all.add(t);
    }
    Token end = new Token();
    end.text = "";
    end.place = s.length();
    all.add(end);
    return all;
  }

  /** An open one of not [ ( or the law itself: what it holds, how far its comparison is. */
  private static final class Frame {
    char opener;
    boolean truth;
    int nots = 0;
    boolean compared = false;
    Frame(char opener, boolean truth) { this.opener = opener; this.truth = truth; }
  }

  /** Thrown at the first fault. */
  private static final class Fault extends RuntimeException {
    final int kind, place;
    Fault(int kind, int place) { this.kind = kind; this.place = place; }
  }

  private static final class Second {
    final List<Token> all;
    int at = 0;
    Second(String text) { all = tokens(text); }

    Token now() { return all.get(at); }

    Fault fault(int kind) { return new Fault(now().bad ? 1 : kind, now().place); }

    void step(boolean fits) {
      if (!fits || now().bad) { throw fault(2); }
      at++;
    }

    int number(int from, int to) {
      if (!now().isNumber()) { throw fault(2); }
      int v = Integer.parseInt(now().text);
      if (v < from || v > to) { throw fault(3); }
      at++;
      return v;
    }

    int read() {
      step(now().is("beach"));
      int columns = number(1, 4), rows = number(1, 5), lines = 1;
      step(now().is(";"));
      List<Integer> taken = new ArrayList<>();
      while (!now().is("")) {
        if (now().is("person") && taken.size() == 8) { throw fault(4); }
        if (now().is("person")) {
          at++;
          step(now().is("at"));
          int c = number(0, columns - 1);
          if (now().isNumber() && taken.contains(c * 1000 + Integer.parseInt(now().text))) { throw fault(3); }
          taken.add(c * 1000 + number(0, rows - 1));
          while (now().in("age", "asleep", "rises")) {
            String flag = now().text;
            at++;
            if (flag.equals("age")) { number(0, 99); }
            if (flag.equals("rises")) {
              number(0, 999);
              step(now().is("for"));
              number(1, 99);
            }
          }
        } else if (now().is("minute")) {
          at++;
          number(0, 999);
        } else if (now().in("moves", "tide", "wets")) {
          String law = now().text;
          at++;
          step(now().is(":"));
          law(law);
        } else {
          throw fault(2);
        }
        step(now().is(";"));
        lines++;
      }
      return lines;
    }

    private void law(String law) {
      Deque<Frame> open = new ArrayDeque<>();
      open.push(new Frame(' ', law.equals("moves")));
      boolean operand = true, unitStart = law.equals("moves"), unitDone = false;
      int depth = 0;
      while (true) {
        Frame top = open.peek();
        Token t = now();
        boolean opens = operand && (t.is("(") || unitStart && t.in("not", "["));
        if (opens && depth == 6) { throw fault(4); }
        if (opens) {
          depth++;
          if (t.is("not")) { top.nots++; } else { open.push(new Frame(t.text.charAt(0), t.is("["))); }
          unitStart = !t.is("(");
        } else if (operand) {
          boolean named = t.is("minute") || law.equals("moves") && t.in("who", "age")
              || !law.equals("tide") && t.in("column", "row");
          if (!t.isNumber() && !named) { throw fault(2); }
          operand = false;
          unitStart = false;
        } else if (!unitDone && t.in("+", "-", "*")) {
          operand = true;
        } else if (!unitDone && top.truth && !top.compared && t.in("=", "<", ">")) {
          top.compared = true;
          operand = true;
        } else if (top.opener == '(' && t.is(")")) {
          open.pop();
          depth--;
        } else if (top.truth && (unitDone || top.compared) && t.in("and", "or", "]", ";")) {
          depth -= top.nots;
          top.nots = 0;
          top.compared = false;
          unitDone = false;
          if (t.is(";")) {
            if (top.opener != ' ') { throw fault(2); }
            return;
          } else if (t.is("]")) {
            if (top.opener != '[') { throw fault(2); }
            open.pop();
            depth--;
            unitDone = true;
          } else {
            operand = true;
            unitStart = true;
          }
        } else if (!top.truth && top.opener == ' ' && t.is(";")) {
          return;
        } else {
          throw fault(2);
        }
        at++;
      }
    }
  }

  // ---- texts by chance

  private static String sum(Random r, int depth) {
    StringBuilder s = new StringBuilder();
    int many = 1 + r.nextInt(3);
    for (int i = 0; i < many; i++) {
      if (i > 0) { s.append("+-*".charAt(r.nextInt(3))); }
      int k = r.nextInt(10);
      if (k < depth) {
        s.append('(').append(sum(r, depth - 1)).append(')');
      } else {
        s.append(k == 9 ? "minute" : k == 8 && r.nextBoolean() ? "row" : String.valueOf(r.nextInt(1000)));
      }
    }
    return s.toString();
  }

  private static String truth(Random r, int depth) {
    StringBuilder s = new StringBuilder();
    int many = 1 + r.nextInt(2);
    for (int i = 0; i < many; i++) {
      if (i > 0) { s.append(r.nextBoolean() ? " and " : "\nor "); }
      int k = r.nextInt(9);
      if (k < depth) {
        s.append(k % 2 == 0 ? "not not [" : "[").append(truth(r, depth - 1)).append(']');
      } else {
        s.append(k == 8 ? " not " : "").append(sum(r, depth)).append("=<>".charAt(r.nextInt(3))).append(sum(r, 1));
      }
    }
    return s.toString();
  }

  private static String text(Random r) {
    StringBuilder s = new StringBuilder("beach " + (1 + r.nextInt(4)) + " " + (1 + r.nextInt(5)) + ";");
    int lines = r.nextInt(13);
    for (int i = 0; i < lines; i++) {
      switch (r.nextInt(8)) {
        case 0: s.append("tide:").append(sum(r, r.nextInt(7))); break;
        case 1: s.append("wets :").append(sum(r, r.nextInt(7))); break;
        case 2: s.append("moves:").append(truth(r, r.nextInt(6))); break;
        case 3: s.append("minute ").append(r.nextInt(1001)); break;
        default:
          s.append("person at ").append(r.nextInt(4)).append(' ').append(r.nextInt(5));
          if (r.nextInt(3) == 0) { s.append(" age ").append(r.nextInt(102)); }
          if (r.nextInt(3) == 0) { s.append("\nasleep"); }
          if (r.nextInt(3) == 0) { s.append(" rises ").append(r.nextInt(999)).append(" for ").append(r.nextInt(102)); }
      }
      s.append(';');
    }
    return s.toString();
  }

  private static final String[] WORDS = {"beach", "person", "at", "moves", "tide", "wets", "minute", "age", "asleep",
      "rises", "for", "not", "or", "and", "who", "column", "row", "rowe", "ro", ";", ":", "+", "-", "*", "(", ")", "[",
      "]", "=", "<", ">", "0", "1000", "7", "?", "A", "_", "\t", "\r", "", "not [ not (", "((((", "[[["};

  private static String spoilt(Random r, String text) {
    int a = r.nextInt(text.length() + 1);
    int b = Math.min(text.length(), a + (r.nextBoolean() ? 0 : r.nextInt(6)));
    String word = r.nextInt(40) == 0 ? String.valueOf((char) r.nextInt(256)) : WORDS[r.nextInt(WORDS.length)];
    return text.substring(0, a) + " ".repeat(r.nextInt(2)) + word + " ".repeat(r.nextInt(2)) + text.substring(b);
  }

  private static void check(String text) {
    int want;
    int kind = 0, place = -1;
    try {
      want = new Second(text).read();
    } catch (Fault f) {
      kind = f.kind;
      place = f.place;
      want = -10 - kind;
    }
    FrontChairs x = new FrontChairs();
    StringBuilder s = new StringBuilder(text);
    while (s.length() % 20 != 0) { s.append(';'); }
    for (int i = 0; i < s.length(); i += 20) {
      int[] w = new int[5];
      for (int j = 0; j < 20; j++) { w[j / 4] = w[j / 4] << 8 | s.charAt(i + j); }
      x.feed(w[0], w[1], w[2], w[3], w[4]);
    }
    int got = x.beach(text.length());
    if (got != want || x.fault(0) != kind || x.fault(1) != place) {
      wrong++;
      if (wrong < 10) {
        System.out.println(text + "\n  answered " + got + " at " + x.fault(1) + ", due is " + want + " at " + place);
      }
    }
    kinds[kind]++;
  }

  private static final int[] kinds = new int[5];

  public static void main(String[] args) {
    for (int seed = 0; seed < TEXTS; seed++) {
      Random r = new Random(seed);
      String text = text(r);
      int times = r.nextInt(4);
      for (int i = 0; i < times; i++) { text = spoilt(r, text); }
      if (text.length() <= 900) { check(text); }
    }
    System.out.println("faults met, by kind: " + Arrays.toString(kinds));
    for (int many : kinds) {
      if (many < 100) {
        wrong++;
        System.out.println("too few texts of a kind");
      }
    }
    System.out.println(wrong == 0 ? "all answers are as due" : wrong + " answers are not as due");
    if (wrong != 0) { System.exit(1); }
  }
}
