import java.util.NoSuchElementException;

/** What the tests of single sentences share: each names its promise, quotes its words, and is counted by itself. */
abstract class Sentences {
  static final int NONE = FrontChairs.NONE;
  static final Class<?> NO_SUCH = NoSuchElementException.class;
  static final Class<?> ARGUMENT = IllegalArgumentException.class;
  static final Class<?> STATE = IllegalStateException.class;
  static final Class<?> INDEX = IndexOutOfBoundsException.class;
  static final int LEAST = Integer.MIN_VALUE;
  static final int MOST = Integer.MAX_VALUE;

  interface Test { void run(); }

  interface Ask { long of(FrontChairs x); }

  interface Make { FrontChairs make(); }

  private static String sentence = "";
  private static int tests = 0;
  private static int broken = 0;
  private static boolean holds = true;

  Sentences() { }

  /** One sentence of a promise (0: of the Terms), with its own test. */
  static void sentence(int promise, String words, Test test) {
    sentence = (promise == 0 ? "Terms" : "promise " + promise) + ", \"" + words + "\"";
    holds = true;
    tests++;
    try {
      test.run();
    } catch (RuntimeException e) {
      wrong("the test was cut off by " + e);
    }
    if (!holds) { broken++; }
  }

  private static void wrong(String what) {
    holds = false;
    System.out.println(sentence + ": " + what);
  }

  /** Says how it went, and ends the program with 1 if a sentence is broken. */
  static void end() {
    System.out.println(broken == 0 ? "all " + tests + " sentences hold" : broken + " of " + tests + " sentences are broken");
    if (broken != 0) { System.exit(1); }
  }

  static void is(String what, long got, long want) {
    if (got != want) { wrong(what + " answered " + got + ", due is " + want); }
  }

  static void holds(String what, boolean held) {
    if (!held) { wrong(what); }
  }

  static void same(String what, FrontChairs a, FrontChairs b) {
    String x = whole(a);
    String y = whole(b);
    if (!x.equals(y)) { wrong(what + ", but it differs: " + difference(x, y)); }
  }

  private static String difference(String x, String y) {
    int at = 0;
    while (at < x.length() && at < y.length() && x.charAt(at) == y.charAt(at)) { at++; }
    int from = Math.max(0, at - 20);
    return "[" + x.substring(from, Math.min(x.length(), at + 20)) + "] / [" + y.substring(from, Math.min(y.length(), at + 20)) + "]";
  }

  static String thrown(FrontChairs x, Ask ask) {
    try {
      ask.of(x);
      return "nothing";
    } catch (RuntimeException e) {
      return e.getClass().getSimpleName();
    }
  }

  /** A call throws just this, and nothing differs from an object on which it was never made. */
  static void refused(String what, Make make, Class<?> want, Ask ask) {
    FrontChairs x = make.make();
    String got = thrown(x, ask);
    if (!got.equals(want.getSimpleName())) { wrong(what + " threw " + got + ", due is " + want.getSimpleName()); }
    same(what + " throws and changes nothing", x, make.make());
  }

  static void refusedEach(String what, Make make, Class<?> want, int[] values, AskOf ask) {
    for (int v : values) { refused(what + " of " + v, make, want, x -> ask.of(x, v)); }
  }

  interface AskOf { long of(FrontChairs x, int v); }

  /** A call answers so, and nothing differs from an object on which it was never made. */
  static void only(String what, Make make, long want, Ask ask) {
    FrontChairs x = make.make();
    is(what, ask.of(x), want);
    same(what + " changes nothing", x, make.make());
  }

  // ---- telling

  static void feed(FrontChairs x, String text) {
    StringBuilder s = new StringBuilder(text);
    while (s.length() % 20 != 0) { s.append(' '); }
    for (int i = 0; i < s.length(); i += 20) {
      int[] w = new int[5];
      for (int j = 0; j < 20; j++) { w[j / 4] = w[j / 4] << 8 | s.charAt(i + j) & 255; }
      x.feed(w[0], w[1], w[2], w[3], w[4]);
    }
  }

  static int tell(FrontChairs x, String text) {
    feed(x, text);
    return x.beach(text.length());
  }

  static FrontChairs told(String text) {
    FrontChairs x = new FrontChairs();
    if (tell(x, text) < 0) { wrong("fault " + x.fault(0) + " at " + x.fault(1) + " in: " + text); }
    return x;
  }

  static FrontChairs after(String text, int minutes) {
    FrontChairs x = told(text);
    for (int left = minutes; left > 0; left -= Math.min(left, 99)) { x.minutes(Math.min(left, 99)); }
    return x;
  }

  static void lay(FrontChairs x, int tray, int sort, long... numbers) {
    x.tray(tray, sort, numbers.length);
    for (int i = 0; i < numbers.length; i++) { x.write(tray, i, numbers[i]); }
  }

  // ---- seeing

  /** All of the beach, the people and the deeds that can be seen without changing it. */
  static String seen(FrontChairs x) {
    StringBuilder s = new StringBuilder();
    for (int i = 0; i < 9; i++) { s.append(x.count(i)).append(' '); }
    for (int n = 0; n < 30; n += 7) { s.append("t").append(x.tide(n)).append(' '); }
    for (int c = 0; c < x.count(1); c++) {
      for (int r = 0; r < x.count(2); r++) {
        s.append("c").append(x.chair(c, r)).append(' ').append(x.wets(c, r, 0)).append(' ').append(x.wets(c, r, 3)).append(' ');
      }
    }
    for (int p = 0; p < x.count(3); p++) {
      s.append("p");
      for (int i = 0; i < 8; i++) { s.append(x.person(p, i)).append(' '); }
      for (int n = 1; n < 20; n += 4) { s.append(x.sits(p, n)).append(' '); }
      s.append(x.wetIn(p)).append(' ').append(x.moves(p, 0, 0)).append(' ');
    }
    return s.toString();
  }

  static String trays(FrontChairs x) {
    StringBuilder s = new StringBuilder();
    for (int t = 0; t < 4; t++) {
      for (int i = 0; i < 4; i++) {
        try {
          s.append(x.judge(t, i)).append(' ');
        } catch (IllegalStateException e) {
          s.append("missing ");
        }
      }
    }
    return s.toString();
  }

  private static String undone(FrontChairs x) {
    StringBuilder s = new StringBuilder("now ").append(seen(x));
    for (int i = 0; i < 10 && x.count(8) > 0; i++) {
      x.undo(1);
      s.append("undone ").append(seen(x));
    }
    return s.toString();
  }

  /** Beach, deeds, images and trays; the object is used up by it. */
  static String allButTape(FrontChairs x) {
    StringBuilder s = new StringBuilder(trays(x)).append(undone(x));
    for (int i = 0; i < 3; i++) {
      try {
        x.restore(i);
        s.append("image ").append(undone(x));
      } catch (IllegalStateException e) {
        s.append("no image ");
      }
    }
    return s.toString();
  }

  /** All that there is; the object is used up by it. */
  static String whole(FrontChairs x) {
    StringBuilder s = new StringBuilder();
    s.append("fault ").append(x.fault(0)).append(' ').append(x.fault(1)).append(' ').append(x.count(9)).append(' ');
    s.append(allButTape(x));
    s.append("tape ").append(x.beach(x.count(9))).append(' ').append(x.fault(1)).append(' ').append(seen(x));
    return s.toString();
  }

  // ---- beaches

  /** Column 0 with three, column 1 with one that has a plan in front and one asleep at the back. */
  static final String TWO = "beach 2 3;person at 0 0;person at 0 1 age 70;person at 0 2;"
      + "person at 1 2 asleep;person at 1 0 rises 6 for 2;tide:minute-7;minute 5;";

  /** As large as can be, eight people in the corners and at the back. */
  static final String LARGE = "beach 4 5;person at 0 0;person at 3 4;person at 0 4;person at 3 0;"
      + "person at 1 4;person at 2 4 rises 999 for 99;person at 1 2 age 99;person at 2 2 asleep;";

  static FrontChairs two() { return told(TWO); }

  static FrontChairs large() { return told(LARGE); }

  /**
   * Something of everything: one up by hand, one up by its plan, one asleep, wet ones, deeds, two images, trays of two
   * sorts and one without places, a fault behind the beach, and half a text on the tape.
   */
  static FrontChairs rich() {
    FrontChairs x = told("beach 2 4;person at 0 0;person at 0 1 age 70;person at 0 2;person at 1 3 asleep;"
        + "person at 1 0 rises 6 for 5;person at 1 1 age 3;moves:age<50 or row>0;tide:minute-6;wets:4-row;minute 5;");
    x.image(0);
    x.rise(0);
    x.swap(1, 5);
    x.image(2);
    x.minutes(3);
    lay(x, 0, 1, 2, 101, 215, NONE, 3);
    lay(x, 1, 0);
    lay(x, 3, 3, NONE, NONE);
    tell(x, "beach 1 1;minute 2 ?;");
    feed(x, "beach 3 2;minute 7;");
    return x;
  }
}
