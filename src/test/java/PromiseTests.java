import java.util.NoSuchElementException;

/** Each promise of the document: ordinary inputs, edges, and each throw, which must change nothing. */
public final class PromiseTests {
  private static final int NONE = FrontChairs.NONE;
  private static final Class<?> NO_SUCH = NoSuchElementException.class;
  private static final Class<?> ARGUMENT = IllegalArgumentException.class;
  private static final Class<?> STATE = IllegalStateException.class;
  private static final Class<?> INDEX = IndexOutOfBoundsException.class;

  /** Columns: 0 with three, 1 with one that has a plan in front and one asleep at the back. */
  private static final String TWO = "beach 2 3;person at 0 0;person at 0 1 age 70;person at 0 2;"
      + "person at 1 2 asleep;person at 1 0 rises 6 for 2;tide:minute-7;minute 5;";

  private static int wrong = 0;

  private interface Call { long run(); }

  private static void due(String what, long got, long want) {
    if (got != want) {
      wrong++;
      System.out.println(what + " answered " + got + ", due is " + want);
    }
  }

  private static void dueThrow(FrontChairs x, String what, Class<?> want, Call call) {
    String before = print(x);
    String got = "nothing";
    try {
      call.run();
    } catch (RuntimeException e) {
      got = e.getClass().getSimpleName();
    }
    if (!got.equals(want.getSimpleName())) {
      wrong++;
      System.out.println(what + " threw " + got + ", due is " + want.getSimpleName());
    }
    if (!before.equals(print(x))) {
      wrong++;
      System.out.println(what + " threw and changed something");
    }
  }

  /** All that can be seen of an object without changing it. */
  private static String print(FrontChairs x) {
    StringBuilder s = new StringBuilder();
    for (int i = 0; i < 10; i++) { s.append(x.count(i)).append(' '); }
    s.append(x.fault(0)).append(' ').append(x.fault(1)).append(' ');
    for (int p = 0; p < x.count(3); p++) {
      for (int i = 0; i < 8; i++) { s.append(x.person(p, i)).append(' '); }
      s.append(x.sits(p, 20)).append(' ').append(x.wetIn(p)).append(' ').append(x.dry(p, 9, 0)).append(' ');
    }
    for (int c = 0; c < x.count(1); c++) {
      for (int r = 0; r < x.count(2); r++) { s.append(x.chair(c, r)).append(' ').append(x.wets(c, r, 3)).append(' '); }
    }
    for (int t = 0; t < 4; t++) {
      for (int i = 0; i < 4; i++) {
        try {
          s.append(x.judge(t, i)).append(' ');
        } catch (IllegalStateException e) {
          s.append("missing ");
        }
      }
    }
    return s.toString();
  }

  private static void feed(FrontChairs x, String text) {
    StringBuilder s = new StringBuilder(text);
    while (s.length() % 20 != 0) { s.append(' '); }
    for (int i = 0; i < s.length(); i += 20) {
      int[] words = new int[5];
      for (int j = 0; j < 20; j++) { words[j / 4] = words[j / 4] << 8 | s.charAt(i + j) & 255; }
      x.feed(words[0], words[1], words[2], words[3], words[4]);
    }
  }

  private static int tell(FrontChairs x, String text) {
    feed(x, text);
    return x.beach(text.length());
  }

  private static FrontChairs told(String text) {
    FrontChairs x = new FrontChairs();
    if (tell(x, text) < 0) {
      wrong++;
      System.out.println("refused, fault " + x.fault(0) + " at " + x.fault(1) + ": " + text);
    }
    return x;
  }

  private static void dueFault(String text, int kind, int place) {
    FrontChairs x = told("beach 2 2;person at 1 1 age 7;minute 3;");
    x.swap(0, 0);
    x.rise(0);
    due("beach of " + text, tell(x, text), -10 - kind);
    due("fault(0) of " + text, x.fault(0), kind);
    due("fault(1) of " + text, x.fault(1), place);
    due("the tape behind " + text, x.count(9), 0);
    due("all stays behind " + text, x.count(0) + 10 * x.count(4) + 100 * x.count(8) + 1000 * x.count(6), 3113);
  }

  private static void lay(FrontChairs x, int tray, int sort, long... numbers) {
    x.tray(tray, sort, numbers.length);
    for (int i = 0; i < numbers.length; i++) { x.write(tray, i, numbers[i]); }
  }

  public static void main(String[] args) {
    newObject();
    feeding();
    beaches();
    faults();
    lawsRead();
    readings();
    rises();
    sitsAndSwaps();
    minutesGoBy();
    undoing();
    toldDeeds();
    afternoons();
    toCome();
    brings();
    faintsAndStirs();
    rounds();
    handsGo();
    dries();
    changes();
    traysAndImages();
    counts();
    System.out.println(wrong == 0 ? "all answers are as due" : wrong + " answers are not as due");
    if (wrong != 0) { System.exit(1); }
  }

  // Promise 1
  private static void newObject() {
    FrontChairs x = new FrontChairs();
    int[] want = {0, 1, 1, 0, 0, 0, 0, 1, 0, 0};
    for (int i = 0; i < 10; i++) { due("new: count(" + i + ")", x.count(i), want[i]); }
    due("new: chair(0, 0)", x.chair(0, 0), NONE);
    due("new: fault(0)", x.fault(0), 0);
    due("new: fault(1)", x.fault(1), NONE);
    for (int t = 0; t < 4; t++) {
      int tray = t;
      dueThrow(x, "new: perform", STATE, () -> x.perform(tray));
    }
    for (int i = 0; i < 3; i++) {
      int image = i;
      dueThrow(x, "new: restore", STATE, () -> { x.restore(image); return 0; });
    }
    due("NONE", NONE, -1);
  }

  // Promise 2
  private static void feeding() {
    FrontChairs x = new FrontChairs();
    for (int i = 1; i <= 45; i++) { due("feed", x.feed(0, 0, 0, 0, 0), 20 * i); }
    due("a 46th feed", x.feed(0, 0, 0, 0, 0), NONE);
    due("bytes", x.count(9), 900);
    due("a beach of all 0", x.beach(900), -11);
    due("place of byte 0", x.fault(1), 0);
    // Bytes come the highest first: "beach 1 1;" and ten bytes that are not asked for.
    due("feed", x.feed(0x62656163, 0x68203120, 0x313b0000, -1, -1), 20);
    due("beach(10)", x.beach(10), 1);
    due("count(9)", x.count(9), 0);
  }

  // Promises 3 and 44
  private static void beaches() {
    FrontChairs x = told(TWO);
    due("lines", x.count(0), 8);
    x.rise(0);
    x.minutes(9);
    feed(x, "beach 1 1;");
    dueThrow(x, "beach(-1)", ARGUMENT, () -> x.beach(-1));
    dueThrow(x, "beach(21)", ARGUMENT, () -> x.beach(21));
    due("beach(20), blanks behind", x.beach(20), 1);
    due("nobody", x.count(3), 0);
    due("nobody wet", x.count(5), 0);
    due("no deeds", x.count(8), 0);
    due("minute", x.count(6), 0);
    due("blanks, later ones strike", tell(x, "\n beach\n2 2 ;person at1 1age 3 asleep age 4;\nminute 7;minute 8;\n"), 4);
    due("age", x.person(0, 2), 4);
    due("minute", x.count(6), 8);
    due("007", tell(x, "beach 001 002;person at 000 001;"), 2);
    due("the empty text", x.beach(0), -12);
    due("the empty text's place", x.fault(1), 0);
    due("people stay", x.count(3), 1);
    StringBuilder all = new StringBuilder("beach 4 5;");
    for (int p = 0; p < 8; p++) { all.append("person at ").append(p % 4).append(' ').append(4 - p / 4).append(";"); }
    due("eight", tell(x, all.toString()), 9);
    due("free chairs", x.count(7), 12);
  }

  // Promise 4, the faults
  private static void faults() {
    dueFault("", 2, 0);
    dueFault("  ", 2, 2);
    dueFault("Beach 1 1;", 1, 0);
    dueFault("beach 1 1,", 1, 9);
    dueFault("beach 0 1;", 3, 6);
    dueFault("beach 1 0;", 3, 8);
    dueFault("beach 5 1;", 3, 6);
    dueFault("beach 1 6;", 3, 8);
    dueFault("beach 1 1;;", 2, 10);
    dueFault("beach 1 1;beach 1 1;", 2, 10);
    dueFault("beach 1 1;minute 1000;", 1, 17);
    dueFault("beach 1 1;minute 0000;", 1, 17);
    dueFault("beach 1 1 2000;", 1, 10);
    dueFault("beach 1 1;minute 5", 2, 18);
    dueFault("beach 1 1;minutes 5;", 2, 10);
    dueFault("beach 1 1;minute:5;", 2, 16);
    dueFault("beach 2 2;person at 2 0;", 3, 20);
    dueFault("beach 2 2;person at 1 2;", 3, 22);
    dueFault("beach 2 2;person at 1 0;person at 1 0 ?;", 3, 36);
    dueFault("beach 2 2;person at 1 0 age 100;", 3, 28);
    dueFault("beach 2 2;person at 1 0 age;", 2, 27);
    dueFault("beach 2 2;person at 1 0 rises 999 for 100;", 3, 38);
    dueFault("beach 2 2;person at 1 0 rises 999 for 0;", 3, 38);
    dueFault("beach 2 2;person at 1 0 rises 1 2;", 2, 32);
    dueFault("beach 2 2;tide:column;", 2, 15);
    dueFault("beach 2 2;tide:age;", 2, 15);
    dueFault("beach 2 2;wets:age;", 2, 15);
    dueFault("beach 2 2;wets:row<1;", 2, 18);
    dueFault("beach 2 2;moves:row;", 2, 19);
    dueFault("beach 2 2;moves:row<1<2;", 2, 21);
    dueFault("beach 2 2;moves:(row<1);", 2, 20);
    dueFault("beach 2 2;moves:[row<1;", 2, 22);
    dueFault("beach 2 2;moves:row<1 or;", 2, 24);
    dueFault("beach 2 2;tide:1+;", 2, 17);
    dueFault("beach 2 2;tide:-1;", 2, 15);
    dueFault("beach 2 2;tide:((((((1))))))+(((((((1)))))));", 4, 35);
    dueFault("beach 2 2;moves:not[not[not[(1)=(((((((1", 4, 28);
    dueFault("beach 2 2;moves:[[[[[[not 1=1]]]]]];", 4, 22);
    dueFault("beach 2 2;tide:((((((1(", 2, 22);
    dueFault("beach 2 2;tide:(((((([", 2, 21);
    dueFault("beach 2 2;tide:((((((\t", 1, 21);
    dueFault("beach 2 2;wets:" + (char) 233 + ";", 1, 15);
    StringBuilder nine = new StringBuilder("beach 4 5;");
    for (int p = 0; p < 8; p++) { nine.append("person at ").append(p % 4).append(' ').append(p / 4).append(";"); }
    dueFault(nine + "person at 9 9;", 4, 122);
    dueFault(nine + "tide:1 person", 2, 129);
    FrontChairs x = told("beach 1 1;");
    tell(x, "beach 1;");
    due("fault(0)", x.fault(0), 2);
    due("fault(2)", x.fault(2), NONE);
    due("fault(-1)", x.fault(-1), NONE);
    dueThrow(x, "beach(1)", ARGUMENT, () -> x.beach(1));
    due("fault(0) behind a throw", x.fault(0), 2);
    tell(x, "beach 1 1;");
    due("fault(0) behind a beach", x.fault(0), 0);
    due("fault(1) behind a beach", x.fault(1), NONE);
  }

  private static int tideOf(String sum) {
    return told("beach 1 5;minute 3;tide:" + sum + ";").tide(0);
  }

  private static boolean movesBy(String truth) {
    return told("beach 2 3;person at 0 0;person at 1 1 age 9;minute 4;moves:" + truth + ";").moves(1, 1, 2);
  }

  // The language
  private static void lawsRead() {
    due("minute", tideOf("minute"), 3);
    due("- goes from the left", tideOf("9-3-2"), 4);
    due("- and +", tideOf("9-7+1"), 3);
    due("* binds", tideOf("1+2*2"), 5);
    due("( )", tideOf("(2-1)*(1+1)"), 2);
    due("6 deep", tideOf("((((((2))))))"), 2);
    due("below 0", tideOf("1-9"), 0);
    due("above rows", tideOf("9"), 5);
    // 999 * 999 is 998001, 1999 below what is kept.
    due("a product is kept", tideOf("999*999*999-999*999-999-997"), 3);
    due("a sum is kept", tideOf("999*999+999+999+999-999*999-999-997"), 3);
    due("a difference is kept", tideOf("0-999*999-999-999-999+999*999+999+999+4"), 3);
    due("just a million", tideOf("999*999+999+999+1-999*999-999-997"), 3);
    due("moves: =", movesBy("row=2") ? 1 : 0, 1);
    due("moves: <", movesBy("row<2") ? 1 : 0, 0);
    due("moves: >", movesBy("column>0") ? 1 : 0, 1);
    due("moves: who", movesBy("who=1 and age=9 and minute=4") ? 1 : 0, 1);
    due("moves: and binds", movesBy("1=1 or 1=1 and 1=2") ? 1 : 0, 1);
    due("moves: [ ]", movesBy("[1=1 or 1=1]and 1=2") ? 1 : 0, 0);
    due("moves: not binds", movesBy("not 1=2 and 1=2") ? 1 : 0, 0);
    due("moves: not [ ]", movesBy("not[1=2 and 1=2]") ? 1 : 0, 1);
    due("moves: not not", movesBy("not not not not not not 1=1") ? 1 : 0, 1);
  }

  // Promises 5 to 9
  private static void readings() {
    FrontChairs x = told(TWO);
    due("chair", x.chair(0, 1), 1);
    due("chair free", x.chair(1, 1), NONE);
    dueThrow(x, "chair(2, 0)", NO_SUCH, () -> x.chair(2, 0));
    dueThrow(x, "chair(-1, 0)", NO_SUCH, () -> x.chair(-1, 0));
    dueThrow(x, "chair(0, 3)", NO_SUCH, () -> x.chair(0, 3));
    dueThrow(x, "chair(0, -1)", NO_SUCH, () -> x.chair(0, -1));
    int[] four = {1, 0, 0, 0, 0, 6, 2, NONE};
    int[] three = {1, 2, 0, 1, 0, NONE, NONE, NONE};
    for (int i = 0; i < 8; i++) {
      due("person(4, " + i + ")", x.person(4, i), four[i]);
      due("person(3, " + i + ")", x.person(3, i), three[i]);
    }
    dueThrow(x, "person(5, 8)", NO_SUCH, () -> x.person(5, 8));
    dueThrow(x, "person(-1, 0)", NO_SUCH, () -> x.person(-1, 0));
    dueThrow(x, "person(0, 8)", ARGUMENT, () -> x.person(0, 8));
    dueThrow(x, "person(0, -1)", ARGUMENT, () -> x.person(0, -1));
    due("tide(2)", x.tide(2), 0);
    due("tide(4)", x.tide(4), 2);
    due("tide(999)", x.tide(999), 3);
    dueThrow(x, "tide(1000)", ARGUMENT, () -> x.tide(1000));
    dueThrow(x, "tide(-1)", ARGUMENT, () -> x.tide(-1));
    due("no tide", told("beach 1 1;").tide(999), 0);
    due("moves of one asleep", x.moves(3, 0, 0) ? 1 : 0, 1);
    dueThrow(x, "moves(5, 0, 0)", NO_SUCH, () -> x.moves(5, 0, 0) ? 1 : 0);
    dueThrow(x, "moves(0, 2, 0)", NO_SUCH, () -> x.moves(0, 2, 0) ? 1 : 0);
    dueThrow(x, "moves(0, 0, 3)", NO_SUCH, () -> x.moves(0, 0, 3) ? 1 : 0);
    due("wets in front", x.wets(1, 0, 999), 5);
    due("wets behind", x.wets(1, 1, 0), 0);
    dueThrow(x, "wets(2, 0, 1000)", NO_SUCH, () -> x.wets(2, 0, 1000));
    dueThrow(x, "wets(0, 0, 1000)", ARGUMENT, () -> x.wets(0, 0, 1000));
    dueThrow(x, "wets(0, 0, -1)", ARGUMENT, () -> x.wets(0, 0, -1));
    FrontChairs y = told("beach 3 3;wets:minute+column*2-row*3;minute 2;");
    due("wets by law", y.wets(2, 1, 1), 4);
    due("wets above", y.wets(0, 0, 30), 10);
    due("wets below", y.wets(0, 2, 1), 0);
  }

  // Promise 10
  private static void rises() {
    FrontChairs x = told(TWO);
    due("rise(0)", x.rise(0), 2);
    due("forward", x.chair(0, 0) * 10 + x.chair(0, 1), 12);
    due("the last is free", x.chair(0, 2), NONE);
    due("column where it sat", x.person(0, 0), 0);
    due("up", x.person(0, 1), NONE);
    due("deeds", x.count(8), 1);
    due("up already", x.rise(0), -2);
    due("asleep", x.rise(3), -3);
    due("no such", x.rise(5), -1);
    due("no such", x.rise(-1), -1);
    due("no more deeds", x.count(8), 1);
    due("none comes over one asleep", x.rise(4), 0);
    // 1 is asleep, the law lets only even ones come to an even row: 2 comes to row 0, nobody to row 2, which 3 may not.
    FrontChairs y = told("beach 1 5;person at 0 0;person at 0 1 asleep;person at 0 2;person at 0 3;person at 0 4;"
        + "moves:[who=0 or who=2 or who=4]and row<3;");
    due("nearest who may", y.rise(0), 2);
    due("2 in front", y.chair(0, 0), 2);
    due("1 sleeps on", y.chair(0, 1), 1);
    due("4 comes over 3", y.chair(0, 2), 4);
    due("3 stays", y.chair(0, 3), 3);
    due("4 left", y.chair(0, 4), NONE);
    // The law is asked of the free chair, in the minute that it is.
    FrontChairs z = told("beach 1 3;person at 0 0;person at 0 1;person at 0 2;moves:row=minute;");
    z.minutes(1);
    due("nobody to row 0 in minute 1", z.rise(0), 0);
    due("one to row 1", z.rise(1), 1);
  }

  // Promises 11 and 12
  private static void sitsAndSwaps() {
    FrontChairs x = told(TWO);
    due("sits already", x.sit(0, 0), -2);
    due("no such person", x.sit(5, 0), -1);
    due("no such column", x.sit(0, 2), -1);
    due("no such column", x.sit(0, -1), -1);
    x.rise(0);
    x.rise(1);
    due("at the back", x.sit(1, 0), 2);
    due("the next", x.sit(0, 1), 1);
    x.rise(4);
    due("the last free one", x.sit(4, 1), 1);
    x.rise(2);
    due("full", x.sit(2, 1), -3);
    due("column changes", x.person(0, 0), 1);
    due("swap", x.swap(3, 1), 0);
    due("one asleep is swapped", x.person(3, 0) * 10 + x.person(3, 1), 0);
    due("and the other", x.person(1, 0) * 10 + x.person(1, 1), 12);
    due("chairs", x.chair(0, 0) * 10 + x.chair(1, 2), 31);
    due("both one", x.swap(2, 2), -1);
    due("no such", x.swap(0, 5), -1);
    due("no such", x.swap(-1, 0), -1);
    due("up", x.swap(0, 2), -2);
    due("up", x.swap(2, 0), -2);
    due("deeds", x.count(8), 8);
  }

  // Promises 13 and 6
  private static void minutesGoBy() {
    FrontChairs x = told(TWO);
    dueThrow(x, "minutes(0)", ARGUMENT, () -> x.minutes(0));
    dueThrow(x, "minutes(100)", ARGUMENT, () -> x.minutes(100));
    due("two", x.minutes(2), 0);
    due("up by its plan till", x.person(4, 7), 8);
    due("the wet ones", x.minutes(3), 3);
    due("wet", x.count(5), 1 + 2 + 16);
    due("one deed each", x.count(8), 2);
    due("minute", x.count(6), 10);
    due("no longer by its plan", x.person(4, 7), NONE);
    due("counted once", x.minutes(99), 2);
    // Who sits by hand is up by its plan no more; who is up by hand has no plan to sit.
    FrontChairs y = told("beach 2 2;person at 0 0 rises 0 for 3;person at 1 0 rises 1 for 1;");
    y.minutes(1);
    due("till", y.person(0, 7), 3);
    due("sits by hand", y.sit(0, 1), 1);
    due("no more", y.person(0, 7), NONE);
    y.rise(1);
    y.minutes(5);
    due("stays up", y.person(1, 1), NONE);
    due("stays where it sat down", y.person(0, 0) * 10 + y.person(0, 1), 10);
    // No chair is free: it tries again.
    FrontChairs w = told("beach 2 1;person at 0 0 rises 0 for 2;person at 1 0;");
    w.minutes(1);
    w.rise(1);
    w.sit(1, 0);
    w.minutes(4);
    due("still up", w.person(0, 1), NONE);
    due("by its plan", w.person(0, 7), 2);
    w.rise(1);
    w.minutes(1);
    due("sits as soon as it can", w.person(0, 1), 0);
    due("its plan is over", w.person(0, 7), NONE);
    // Two of one column sit down by numbers, then risings by numbers, then the tide.
    FrontChairs v = told("beach 1 3;person at 0 0 rises 0 for 2;person at 0 1 rises 0 for 2;"
        + "person at 0 2 rises 2 for 9;tide:minute;");
    v.minutes(2);
    due("wet: who sits in front", v.count(5), 4);
    due("then", v.minutes(1), 2);
    due("back by numbers", v.chair(0, 0) * 100 + v.chair(0, 1) * 10 + v.chair(0, 2), 99);
    // One asleep does not rise by its plan, one that comes forward does.
    FrontChairs u = told("beach 1 2;person at 0 0 asleep rises 0 for 1;person at 0 1 rises 0 for 1;");
    u.minutes(1);
    due("asleep stays, other up", u.count(4), 2);
    // A plan of a minute that is gone is none.
    FrontChairs t = told("beach 1 1;person at 0 0 rises 4 for 1;minute 5;");
    t.minutes(9);
    due("gone", t.count(4), 0);
  }

  // Promise 14
  private static void undoing() {
    FrontChairs x = told(TWO);
    dueThrow(x, "undo(1)", ARGUMENT, () -> x.undo(1));
    String before = print(x);
    x.rise(0);
    x.sit(0, 1);
    x.swap(0, 3);
    x.minutes(9);
    dueThrow(x, "undo(0)", ARGUMENT, () -> x.undo(0));
    dueThrow(x, "undo(5)", ARGUMENT, () -> x.undo(5));
    dueThrow(x, "undo(-1)", ARGUMENT, () -> x.undo(-1));
    due("undo(1)", x.undo(1), 3);
    due("dry again", x.count(5), 0);
    due("minute again", x.count(6), 5);
    due("undo(3)", x.undo(3), 0);
    due("all as before", print(x).equals(before) ? 1 : 0, 1);
    for (int i = 0; i < 13; i++) { x.minutes(1); }
    due("ten at most", x.count(8), 10);
    dueThrow(x, "undo(11)", ARGUMENT, () -> x.undo(11));
    due("undo(10)", x.undo(10), 0);
    due("eldest are forgotten", x.count(6), 8);
  }

  // Promises 15 and 16
  private static void toldDeeds() {
    FrontChairs x = told(TWO);
    lay(x, 0, 1, 0, 101, 203, NONE, NONE);
    due("judge 0", x.judge(0, 0), NONE);
    due("judge 1", x.judge(0, 1), 0);
    due("judge 2", x.judge(0, 2), 3);
    due("judge 3", x.judge(0, 3), 7);
    due("nothing is done", x.count(6), 5);
    dueThrow(x, "judge(4, 9)", NO_SUCH, () -> x.judge(4, 9));
    dueThrow(x, "judge(-1, 0)", NO_SUCH, () -> x.judge(-1, 0));
    dueThrow(x, "judge(1, 9)", STATE, () -> x.judge(1, 9));
    dueThrow(x, "judge(0, 4)", ARGUMENT, () -> x.judge(0, 4));
    dueThrow(x, "judge(0, -1)", ARGUMENT, () -> x.judge(0, -1));
    dueThrow(x, "perform(4)", NO_SUCH, () -> x.perform(4));
    dueThrow(x, "perform(1)", STATE, () -> x.perform(1));
    long[] deeds = {1, 3, 5, 9, 10, 99, 100, 104, 150, 212, 211, 215, 299, 300, -2, 1L << 32, Long.MIN_VALUE, 0};
    int[] whys = {0, 3, 1, 1, 1, 1, 2, 1, 1, 0, 1, 1, 1, 1, 1, 1, 1, 0};
    for (int i = 0; i < deeds.length; i++) {
      lay(x, 1, 3, NONE, deeds[i], NONE);
      due("why not " + deeds[i], x.judge(1, 1), whys[i]);
      due("where not " + deeds[i], x.judge(1, 0), whys[i] == 0 ? NONE : 1);
      due("minute then " + deeds[i], x.judge(1, 3), whys[i] == 0 ? 7 : 6);
    }
    lay(x, 2, 0);
    due("no deeds", x.judge(2, 0), NONE);
    due("no deeds, front", x.judge(2, 2), 17);
    due("none performed", x.perform(2), 0);
    lay(x, 2, 0, 203);
    due("8 bits", x.judge(2, 1), 1);
    due("perform", x.perform(0), 5);
    due("deeds", x.count(8), 5);
    due("minute", x.count(6), 7);
    due("front", x.front(0), 3);
    lay(x, 1, 2, 0, 0, 1);
    due("till one can't be", x.perform(1), 1);
    due("the rest isn't done", x.person(1, 1), 0);
    due("deeds", x.count(8), 6);
    due("undone one by one", x.undo(6), 0);
    due("minute", x.count(6), 5);
  }

  // Promise 17
  private static void afternoons() {
    for (int seed = -20; seed < 20; seed++) {
      FrontChairs x = told(TWO);
      FrontChairs y = told(TWO);
      int done = x.afternoon(seed * 7919, 30);
      int drawn = seed * 7919;
      int want = 0;
      for (int i = 0; i < 30; i++) {
        int[] d = new int[3];
        int kept = drawn;
        int[] after = new int[3];
        for (int j = 0; j < 3; j++) {
          kept = 1103515245 * kept + 12345;
          d[j] = kept >>> 16;
          after[j] = kept;
        }
        int sort = d[0] % 5;
        drawn = after[sort < 2 ? 0 : sort == 2 ? 1 : 2];
        int answer = sort < 2 ? y.minutes(1) : sort == 2 ? y.rise(d[1] % 8)
            : sort == 3 ? y.sit(d[1] % 8, d[2] % 4) : y.swap(d[1] % 8, d[2] % 8);
        if (answer >= 0) { want++; }
      }
      due("afternoon", done, want);
      due("the same afterwards", print(x).equals(print(y)) ? 1 : 0, 1);
    }
    FrontChairs x = told(TWO);
    dueThrow(x, "afternoon(1, 0)", ARGUMENT, () -> x.afternoon(1, 0));
    dueThrow(x, "afternoon(1, 31)", ARGUMENT, () -> x.afternoon(1, 31));
  }

  // Promises 18 to 23
  private static void toCome() {
    FrontChairs x = told(TWO);
    int[] four = {10, 10, NONE, NONE, 11, 11};
    for (int n = 0; n < four.length; n++) { due("sits(4, " + n + ")", x.sits(4, n), four[n]); }
    due("sits(4, 200)", x.sits(4, 200), 11);
    dueThrow(x, "sits(5, 201)", NO_SUCH, () -> x.sits(5, 201));
    dueThrow(x, "sits(0, 201)", ARGUMENT, () -> x.sits(0, 201));
    dueThrow(x, "sits(0, -1)", ARGUMENT, () -> x.sits(0, -1));
    int[] wetIn = {4, 5, 6, 6, 5};
    for (int p = 0; p < 5; p++) { due("wetIn(" + p + ")", x.wetIn(p), wetIn[p]); }
    dueThrow(x, "wetIn(5)", NO_SUCH, () -> x.wetIn(5));
    due("wetBy(3)", x.wetBy(3), 0);
    due("wetBy(5)", x.wetBy(5), 19);
    due("wetBy(200)", x.wetBy(200), 31);
    dueThrow(x, "wetBy(201)", ARGUMENT, () -> x.wetBy(201));
    dueThrow(x, "wetBy(-1)", ARGUMENT, () -> x.wetBy(-1));
    due("frontIn(0)", x.frontIn(0), 0);
    due("frontIn(1)", x.frontIn(1), NONE);
    dueThrow(x, "frontIn(5)", NO_SUCH, () -> x.frontIn(5));
    due("front(1)", x.front(1), 17);
    due("front(2)", x.front(2), 1);
    dueThrow(x, "front(201)", ARGUMENT, () -> x.front(201));
    dueThrow(x, "front(-1)", ARGUMENT, () -> x.front(-1));
    dueThrow(x, "king(201)", ARGUMENT, () -> x.king(201));
    dueThrow(x, "king(-1)", ARGUMENT, () -> x.king(-1));
    due("nothing is done", x.count(6), 5);
    // 0 rises in minute 3, 1 in minute 199, 2 never: the edges of 200.
    FrontChairs y = told("beach 1 3;person at 0 0 rises 3 for 1;person at 0 1 rises 199 for 9;person at 0 2;"
        + "tide:minute-198;");
    due("frontIn(1)", y.frontIn(1), 4);
    due("frontIn(2)", y.frontIn(2), 200);
    due("frontIn(0) now", y.frontIn(0), 0);
    due("wetIn(2) the last", y.wetIn(2), 200);
    due("wetIn(0)", y.wetIn(0), NONE);
    due("king(3), now counted", y.king(3), 0);
    due("king(7), the first of like ones", y.king(7), 0);
    due("king(8)", y.king(8), 1);
    due("king of none", told("beach 1 2;person at 0 1;").king(200), NONE);
    y.minutes(1);
    due("in 199 now", y.frontIn(2), 199);
    FrontChairs z = told("beach 1 2;person at 0 0 rises 200 for 1;person at 0 1;tide:minute-199;");
    due("201 is too late", z.frontIn(1), NONE);
    due("wet in 201 is too late", z.wetIn(1), NONE);
    z.minutes(99);
    z.minutes(99);
    z.minutes(3);
    due("wet now", z.wetIn(1), 0);
  }

  // Promise 24
  private static void brings() {
    FrontChairs x = told(TWO);
    due("one", x.bring(1, 0, 0), 1);
    due("who", x.bring(1, 0, 10), 0);
    due("no second", x.bring(1, 0, 11), NONE);
    due("two", x.bring(2, 0, 0), 2);
    due("first by people", x.bring(2, 0, 10) * 10 + x.bring(2, 0, 11), 1);
    due("it sits so", x.bring(2, 2, 0), 0);
    due("a lesser one", x.bring(0, 2, 0), 0);
    due("asleep", x.bring(3, 0, 0), NONE);
    due("asleep, who", x.bring(3, 0, 17), NONE);
    dueThrow(x, "bring(5, 9, 9)", NO_SUCH, () -> x.bring(5, 9, 9));
    dueThrow(x, "bring(0, 3, 0)", ARGUMENT, () -> x.bring(0, 3, 0));
    dueThrow(x, "bring(0, -1, 0)", ARGUMENT, () -> x.bring(0, -1, 0));
    dueThrow(x, "bring(0, 0, 1)", ARGUMENT, () -> x.bring(0, 0, 1));
    dueThrow(x, "bring(0, 0, 9)", ARGUMENT, () -> x.bring(0, 0, 9));
    dueThrow(x, "bring(0, 0, 18)", ARGUMENT, () -> x.bring(0, 0, 18));
    dueThrow(x, "bring(0, 0, -1)", ARGUMENT, () -> x.bring(0, 0, -1));
    x.rise(0);
    due("up", x.bring(0, 2, 0), NONE);
    due("up, who", x.bring(0, 2, 10), NONE);
    // Who comes to row 0 must be the third; 2 in row 1 rises first, else it would come to row 0 itself.
    FrontChairs y = told("beach 1 3;person at 0 2;person at 0 0;person at 0 1;moves:row=0;");
    due("two of them", y.bring(0, 0, 0), 2);
    due("in this order", y.bring(0, 0, 10) * 10 + y.bring(0, 0, 11), 12);
    FrontChairs z = told("beach 1 3;person at 0 2;person at 0 0;person at 0 1;moves:row=0 and who=0;");
    due("over the other", z.bring(0, 0, 0), 1);
    due("it", z.bring(0, 0, 10), 1);
    FrontChairs w = told("beach 1 5;person at 0 4;person at 0 3;person at 0 2;person at 0 1;person at 0 0;");
    due("four", w.bring(0, 0, 0), 4);
    for (int k = 0; k < 8; k++) { due("in order", w.bring(0, 0, 10 + k), k < 4 ? k + 1 : NONE); }
  }

  // Promises 25 and 27
  private static void faintsAndStirs() {
    FrontChairs x = told(TWO);
    due("now", x.faints(1, 0, 0), 1);
    due("who", x.faints(1, 0, 1), 1);
    due("two", x.faints(2, 3, 0), 2);
    due("who", x.faints(2, 3, 1), 3);
    due("can't be", x.faints(4, 4, 0), NONE);
    due("can't be, who", x.faints(4, 4, 1), NONE);
    due("none needed", x.faints(0, 60, 0), 0);
    due("none needed, who", x.faints(0, 60, 1), 0);
    dueThrow(x, "faints(5, 61, 9)", NO_SUCH, () -> x.faints(5, 61, 9));
    dueThrow(x, "faints(0, 61, 0)", ARGUMENT, () -> x.faints(0, 61, 0));
    dueThrow(x, "faints(0, -1, 0)", ARGUMENT, () -> x.faints(0, -1, 0));
    dueThrow(x, "faints(0, 1, 2)", ARGUMENT, () -> x.faints(0, 1, 2));
    // One that rises by its plan by itself needn't faint.
    FrontChairs y = told("beach 1 3;person at 0 2;person at 0 1 rises 1 for 9;person at 0 0;");
    due("in 1", y.faints(0, 1, 0), 2);
    due("in 2", y.faints(0, 2, 0), 1);
    due("in 2, who", y.faints(0, 2, 1), 4);
    FrontChairs z = told("beach 1 3;person at 0 2;person at 0 1 rises 0 for 9;person at 0 0 rises 0 for 9;");
    due("both by plan", z.faints(0, 1, 0), 0);
    FrontChairs u = told("beach 1 3;person at 0 2;person at 0 0;person at 0 1;moves:who=0 or row=9;");
    due("one is enough: it comes over the other", u.faints(0, 0, 1), 2);
    FrontChairs v = told("beach 1 3;person at 0 2;person at 0 0 rises 0 for 9;person at 0 1 asleep;");
    due("nobody has to", v.faints(0, 1, 1), 0);
    // One up by its plan may come to row 0 again.
    FrontChairs w = told("beach 1 1;person at 0 0 rises 0 for 2;");
    w.minutes(1);
    due("up for now", w.faints(0, 1, 0), NONE);
    due("back then", w.faints(0, 2, 0), 0);
    due("stir", x.stir(), 0);
    due("stir: the first of like ones", told("beach 2 2;person at 1 1;person at 1 0;person at 0 0;person at 0 1;").stir(), 1);
    due("stir: none comes", told("beach 2 2;person at 0 0;person at 1 0;").stir(), NONE);
    due("stir: one asleep can't rise", told("beach 1 2;person at 0 0 asleep;person at 0 1;").stir(), NONE);
    due("stir: the most", told("beach 1 3;person at 0 2;person at 0 1;person at 0 0;").stir(), 2);
    due("stir: nothing is done", x.count(8), 0);
  }

  // Promise 26
  private static void rounds() {
    FrontChairs x = told(TWO);
    due("round(0)", x.round(0), 2);
    due("round(1)", x.round(1), NONE);
    dueThrow(x, "round(2)", NO_SUCH, () -> x.round(2));
    dueThrow(x, "round(-1)", NO_SUCH, () -> x.round(-1));
    due("none sits there", told("beach 1 5;").round(0), 0);
    due("one behind free chairs stays behind", told("beach 1 5;person at 0 4;").round(0), NONE);
    due("all do", told("beach 1 5;person at 0 0;").round(0), 0);
    // The law lets nobody come to row 0 before minute 97: 98 of them go by.
    String late = "beach 1 2;person at 0 0;person at 0 1;moves:minute=M;";
    due("98", told(late.replace("M", "97")).round(0), 98);
    due("99", told(late.replace("M", "98")).round(0), 99);
    due("not by then", told(late.replace("M", "99")).round(0), NONE);
    due("who sits down by a plan isn't awaited",
        upByPlan("beach 1 2;person at 0 0;person at 0 1 rises 0 for 1;").round(0), 0);
  }

  private static FrontChairs upByPlan(String text) {
    FrontChairs x = told(text);
    x.minutes(1);
    return x;
  }

  // Promises 28 to 31
  private static void handsGo() {
    FrontChairs x = told(TWO);
    due("hands(0, 1)", x.hands(0, 1), 0);
    due("hands(0, 2)", x.hands(0, 2), 1);
    due("hands(4, 3)", x.hands(4, 3), 3);
    dueThrow(x, "hands(0, 5)", NO_SUCH, () -> x.hands(0, 5));
    dueThrow(x, "hands(5, 5)", NO_SUCH, () -> x.hands(5, 5));
    dueThrow(x, "hands(0, 0)", ARGUMENT, () -> x.hands(0, 0));
    int[] relay = {1, 0, 0, 0, 2};
    for (int p = 0; p < 5; p++) { due("relay(" + p + ")", x.relay(p), relay[p]); }
    dueThrow(x, "relay(5)", NO_SUCH, () -> x.relay(5));
    due("cut(4, 3)", x.cut(4, 3), 7);
    due("cut(3, 4)", x.cut(3, 4), 7);
    due("cut(0, 1)", x.cut(0, 1), 0);
    dueThrow(x, "cut(5, 5)", NO_SUCH, () -> x.cut(5, 5));
    dueThrow(x, "cut(1, 1)", ARGUMENT, () -> x.cut(1, 1));
    due("heaps", x.heaps(), 1);
    x.rise(0);
    dueThrow(x, "hands(0, 0) up", ARGUMENT, () -> x.hands(0, 0));
    dueThrow(x, "hands(0, 1) up", STATE, () -> x.hands(0, 1));
    dueThrow(x, "hands(1, 0) up", STATE, () -> x.hands(1, 0));
    dueThrow(x, "relay(0) up", STATE, () -> x.relay(0));
    dueThrow(x, "cut(0, 1) up", STATE, () -> x.cut(0, 1));
    dueThrow(x, "cut(1, 0) up", STATE, () -> x.cut(1, 0));
    due("hands(1, 3)", x.hands(1, 3), NONE);
    due("cut(1, 3): none anyhow", x.cut(1, 3), 0);
    due("relay(1)", x.relay(1), NONE);
    due("heaps", x.heaps(), 2);
    // Two ways round: nobody alone cuts.
    FrontChairs y = told("beach 2 3;person at 0 0;person at 0 1;person at 0 2;person at 1 0;person at 1 1;person at 1 2;");
    due("two ways", y.cut(0, 5), 0);
    due("the fewest", y.hands(0, 5), 2);
    // Rows do not go round: the last row of a column isn't beside the first of the next.
    FrontChairs z = told("beach 2 5;person at 0 4;person at 1 0;");
    due("not beside", z.hands(0, 1), NONE);
    due("heaps", z.heaps(), 2);
  }

  // Promises 32 to 34
  private static void dries() {
    FrontChairs x = told(TWO);
    due("above", x.dry(0, 3, 0), 1);
    due("below", x.dry(0, 3, 1), 8);
    due("15", x.dry(0, 15, 1), 32768);
    due("up isn't wetted", x.dry(4, 3, 1), 2);
    due("0 minutes", x.dry(0, 0, 0) * 10 + x.dry(0, 0, 1), 11);
    dueThrow(x, "dry(5, 16, 9)", NO_SUCH, () -> x.dry(5, 16, 9));
    dueThrow(x, "dry(0, 16, 0)", ARGUMENT, () -> x.dry(0, 16, 0));
    dueThrow(x, "dry(0, -1, 0)", ARGUMENT, () -> x.dry(0, -1, 0));
    dueThrow(x, "dry(0, 1, 2)", ARGUMENT, () -> x.dry(0, 1, 2));
    due("driest(1)", x.driest(1), 1);
    due("driest(0)", x.driest(0), 0);
    due("driest of none", new FrontChairs().driest(15), NONE);
    dueThrow(x, "driest(16)", ARGUMENT, () -> x.driest(16));
    dueThrow(x, "driest(-1)", ARGUMENT, () -> x.driest(-1));
    // minute as it begins, place at its end: 0 rises in minute 1, 1 comes to row 0 then.
    FrontChairs y = told("beach 1 2;person at 0 0 rises 1 for 9;person at 0 1;wets:minute+3-row*3;");
    due("0 above", y.dry(0, 2, 0), 7);
    due("0 below", y.dry(0, 2, 1), 10);
    due("1 above: 10/10 and 6/10", y.dry(1, 2, 0), 3);
    due("1 below", y.dry(1, 2, 1), 5);
    FrontChairs seven = told("beach 1 1;person at 0 0;wets:3;");
    due("7 to the 15", seven.dry(0, 15, 0), 4747561509943L);
    due("10 to the 15", seven.dry(0, 15, 1), 1000000000000000L);
    FrontChairs sure = told("beach 1 1;person at 0 0;wets:10;");
    due("0", sure.dry(0, 15, 0), 0);
    due("of 1", sure.dry(0, 15, 1), 1);
    FrontChairs z = told("beach 3 2;person at 0 0;person at 0 1;person at 1 1;wets:5-column-row*2;");
    dueThrow(z, "where(3, 16)", NO_SUCH, () -> z.where(3, 16));
    dueThrow(z, "where(0, 16)", ARGUMENT, () -> z.where(0, 16));
    dueThrow(z, "where(0, -1)", ARGUMENT, () -> z.where(0, -1));
    dueThrow(z, "where(0, 15)", STATE, () -> z.where(0, 15));
    z.rise(0);
    due("where(0, 0): the first", z.where(0, 0), 0);
    due("where(0, 1): the last row", z.where(0, 1), 2);
    FrontChairs full = told("beach 2 1;person at 0 0;person at 1 0 rises 0 for 1;");
    full.minutes(1);
    full.rise(0);
    full.sit(0, 1);
    due("the only free column", full.where(1, 5), 0);
    FrontChairs none = told("beach 2 1;person at 0 0;person at 1 0;");
    none.rise(0);
    none.rise(1);
    none.sit(0, 0);
    due("one is left", none.where(1, 5), 1);
    due("nothing is done", none.count(4), 2);
  }

  // Promises 35 to 38
  private static void changes() {
    FrontChairs x = told(TWO);
    due("changed(3, 4)", x.changed(3, 4), 3);
    int[] at = {4, 13, 14, NONE};
    for (int k = 0; k < 4; k++) { due("changedAt(3, 4, " + k + ")", x.changedAt(3, 4, k), at[k]); }
    due("changedAt, far", x.changedAt(3, 4, Integer.MAX_VALUE), NONE);
    due("sure(3, 4)", x.sure(3, 4), 0);
    due("sure(5, 4)", x.sure(5, 4), 4);
    due("sure of none", x.sure(8, 4), 0);
    due("look(5, 4)", x.look(5, 4), 3);
    due("look of none", x.look(8, 4), NONE);
    due("nothing is done", x.count(8), 0);
    dueThrow(x, "changed(32, 4)", ARGUMENT, () -> x.changed(32, 4));
    dueThrow(x, "changed(-1, 4)", ARGUMENT, () -> x.changed(-1, 4));
    dueThrow(x, "changed(0, 0)", ARGUMENT, () -> x.changed(0, 0));
    dueThrow(x, "changed(0, 61)", ARGUMENT, () -> x.changed(0, 61));
    dueThrow(x, "changedAt(0, 61, 0)", ARGUMENT, () -> x.changedAt(0, 61, 0));
    dueThrow(x, "changedAt(32, 4, 0)", ARGUMENT, () -> x.changedAt(32, 4, 0));
    dueThrow(x, "changedAt(0, 4, -1)", ARGUMENT, () -> x.changedAt(0, 4, -1));
    dueThrow(x, "sure(32, 4)", ARGUMENT, () -> x.sure(32, 4));
    dueThrow(x, "sure(0, 0)", ARGUMENT, () -> x.sure(0, 0));
    dueThrow(x, "look(32, 4)", ARGUMENT, () -> x.look(32, 4));
    dueThrow(x, "look(0, 61)", ARGUMENT, () -> x.look(0, 61));
    due("all get wet, all twos", x.changed(31, 60), 10);
    // Who is wet now doesn't count: 0 is, so whoever comes to row 0 is the new one.
    FrontChairs y = told("beach 1 3;person at 0 0;person at 0 1;person at 0 2;tide:1;");
    y.minutes(1);
    due("none new", y.changed(0, 1), 1);
    due("12", y.changedAt(0, 1, 0), 12);
    due("1 new", y.changedAt(2, 1, 0), 1);
    due("2 new", y.changedAt(4, 1, 0), 2);
    due("sure", y.sure(4, 1), 5);
    // Who is up is in no two.
    y.rise(0);
    due("the one two", y.changed(4, 1), 1);
    due("it", y.changedAt(4, 1, 0), 12);
    due("who is up is up by all", y.look(4, 1), 0);
  }

  // Promises 39 to 43
  private static void traysAndImages() {
    FrontChairs x = told(TWO);
    dueThrow(x, "tray(4, 9, 99)", NO_SUCH, () -> { x.tray(4, 9, 99); return 0; });
    dueThrow(x, "tray(-1, 0, 0)", NO_SUCH, () -> { x.tray(-1, 0, 0); return 0; });
    dueThrow(x, "tray(0, 4, 0)", ARGUMENT, () -> { x.tray(0, 4, 0); return 0; });
    dueThrow(x, "tray(0, -1, 0)", ARGUMENT, () -> { x.tray(0, -1, 0); return 0; });
    dueThrow(x, "tray(0, 0, 31)", ARGUMENT, () -> { x.tray(0, 0, 31); return 0; });
    dueThrow(x, "tray(0, 0, -1)", ARGUMENT, () -> { x.tray(0, 0, -1); return 0; });
    dueThrow(x, "write(4, 0, 0)", NO_SUCH, () -> x.write(4, 0, 0));
    dueThrow(x, "write(0, 99, 0)", STATE, () -> x.write(0, 99, 0));
    long v = 0x123456789abcdef0L;
    long[] cut = {(byte) v, (short) v, (int) v, v};
    for (int sort = 0; sort < 4; sort++) {
      x.tray(sort, sort, 30);
      due("write sort " + sort, x.write(sort, 29, v), cut[sort]);
      due("write sort " + sort, x.write(sort, 0, -1), -1);
      due("write 128 sort " + sort, x.write(sort, 0, 128), sort == 0 ? -128 : 128);
    }
    dueThrow(x, "write(0, 30, 0)", INDEX, () -> x.write(0, 30, 0));
    dueThrow(x, "write(0, -1, 0)", INDEX, () -> x.write(0, -1, 0));
    x.tray(0, 3, 0);
    dueThrow(x, "write(0, 0, 0)", INDEX, () -> x.write(0, 0, 0));
    lay(x, 0, 1, 9, 9);
    x.tray(0, 1, 3);
    due("a row of 0s: rises 0 once", x.judge(0, 0), 1);
    copies();
    images();
  }

  private static void copies() {
    FrontChairs x = told(TWO);
    x.tray(0, 0, 5);
    dueThrow(x, "copy(4, 0)", NO_SUCH, () -> x.copy(4, 0));
    dueThrow(x, "copy(0, 5)", NO_SUCH, () -> x.copy(0, 5));
    dueThrow(x, "copy(1, 5)", NO_SUCH, () -> x.copy(1, 5));
    dueThrow(x, "copy(1, 0)", STATE, () -> x.copy(1, 0));
    due("copy", x.copy(0, 3), 5);
    due("12 in each place", x.judge(0, 0) * 10 + x.judge(0, 1), 1);
    // 0 sits on 0, then, up by its plan, the places read NONE: minutes.
    FrontChairs y = told("beach 1 1;person at 0 0 rises 1 for 3;");
    y.tray(2, 3, 6);
    due("copy", y.copy(2, 0), 6);
    // 0 0 -1 -1 -1 0: rises, then can't.
    due("first that can't be", y.judge(2, 0), 1);
    y.write(2, 1, -1);
    due("three minutes more", y.judge(2, 3), 4);
    due("then it is up still", y.judge(2, 0), 5);
    y.tray(2, 3, 0);
    due("no places", y.copy(2, 0), 0);
  }

  private static void images() {
    FrontChairs x = told(TWO);
    dueThrow(x, "image(3)", NO_SUCH, () -> { x.image(3); return 0; });
    dueThrow(x, "image(-1)", NO_SUCH, () -> { x.image(-1); return 0; });
    dueThrow(x, "restore(3)", NO_SUCH, () -> { x.restore(3); return 0; });
    dueThrow(x, "restore(-1)", NO_SUCH, () -> { x.restore(-1); return 0; });
    x.rise(0);
    x.minutes(4);
    String kept = print(x);
    x.image(1);
    dueThrow(x, "restore(0)", STATE, () -> { x.restore(0); return 0; });
    x.image(2);
    x.sit(0, 1);
    x.minutes(50);
    x.restore(1);
    due("as it was", print(x).equals(kept) ? 1 : 0, 1);
    due("deeds are undone", x.undo(2), 0);
    due("minute", x.count(6), 5);
    x.restore(1);
    due("the image is still there", print(x).equals(kept) ? 1 : 0, 1);
    // Another beach, a fault, a tray and the tape: the image brings the beach, and leaves the rest.
    tell(x, "beach 1 1;person at 0 0;moves:1=2;tide:1;wets:3;");
    tell(x, "beach 1 1");
    lay(x, 0, 0, NONE);
    feed(x, "beach 4 4;");
    x.restore(2);
    due("lines", x.count(0), 8);
    due("people", x.count(3), 5);
    due("deeds", x.count(8), 2);
    due("moves", x.moves(0, 0, 0) ? 1 : 0, 1);
    due("wets", x.wets(0, 0, 0), 5);
    due("the tape stays", x.count(9), 20);
    due("the fault stays", x.fault(0) * 100 + x.fault(1), 209);
    due("trays stay", x.judge(0, 3), 10);
    // An image made anew.
    x.minutes(1);
    x.image(2);
    x.minutes(1);
    x.restore(2);
    due("anew", x.count(6), 10);
  }

  // Promise 44
  private static void counts() {
    FrontChairs x = told(TWO);
    x.rise(0);
    x.minutes(4);
    feed(x, "beach");
    int[] want = {8, 2, 3, 5, 1, 2, 9, 2, 2, 20};
    for (int i = 0; i < 10; i++) { due("count(" + i + ")", x.count(i), want[i]); }
    due("count(10)", x.count(10), NONE);
    due("count(-1)", x.count(-1), NONE);
  }
}
