/** Boundary cases of the new object, of what is read from the beach, and of deeds: promises 1 and 5 to 17. */
public final class DeedBoundaries extends Sentences {
  private static final int[] NO_PERSON_OF_SIX = {-1, 6, 7, 8, LEAST, MOST};

  public static void main(String[] args) {
    newObject();
    chairs();
    people();
    tides();
    movesAlone();
    wetted();
    rises();
    whoComes();
    sitting();
    swapping();
    minutesOfOneCall();
    plans();
    tideOfAMinute();
    undoing();
    judging();
    toldDeeds();
    performing();
    afternoons();
    end();
  }

  private static String order(FrontChairs x, int column) {
    StringBuilder s = new StringBuilder();
    for (int r = 0; r < x.count(2); r++) { s.append(x.chair(column, r) == NONE ? "." : String.valueOf(x.chair(column, r))); }
    return s.toString();
  }

  private static void sitSo(String what, FrontChairs x, int column, String want) {
    String got = order(x, column);
    holds(what + ": column " + column + " is " + got + ", due is " + want, got.equals(want));
  }

  private static void newObject() {
    sentence(1, "1 COLUMN, 1 ROW, no PEOPLE", () -> {
      FrontChairs x = new FrontChairs();
      int[] want = {0, 1, 1, 0, 0, 0, 0, 1, 0, 0};
      for (int i = 0; i < 10; i++) { is("count(" + i + ")", x.count(i), want[i]); }
      is("chair(0, 0)", x.chair(0, 0), NONE);
      refused("chair(1, 0)", FrontChairs::new, NO_SUCH, y -> y.chair(1, 0));
      refused("chair(0, 1)", FrontChairs::new, NO_SUCH, y -> y.chair(0, 1));
      refused("round(1)", FrontChairs::new, NO_SUCH, y -> y.round(1));
    });
    sentence(1, "no PEOPLE: no such PERSON", () -> {
      Ask[] all = {x -> x.person(0, 0), x -> x.moves(0, 0, 0) ? 1 : 0, x -> x.sits(0, 0), x -> x.wetIn(0), x -> x.frontIn(0),
          x -> x.bring(0, 0, 0), x -> x.faints(0, 0, 0), x -> x.hands(0, 0), x -> x.relay(0), x -> x.cut(0, 0),
          x -> x.dry(0, 0, 0), x -> x.where(0, 0), x -> x.copy(0, 0)};
      for (int i = 0; i < all.length; i++) { refused("call " + i, FrontChairs::new, NO_SUCH, all[i]); }
      only("rise(0)", FrontChairs::new, -1, x -> x.rise(0));
      only("sit(0, 0)", FrontChairs::new, -1, x -> x.sit(0, 0));
      only("swap(0, 1)", FrontChairs::new, -1, x -> x.swap(0, 1));
    });
    sentence(1, "no PEOPLE: what is asked of all", () -> {
      FrontChairs x = new FrontChairs();
      is("stir()", x.stir(), NONE);
      is("heaps()", x.heaps(), 0);
      is("round(0)", x.round(0), 0);
      is("driest(15)", x.driest(15), NONE);
      is("king(200)", x.king(200), NONE);
      is("front(200)", x.front(200), 0);
      is("wetBy(200)", x.wetBy(200), 0);
      is("changed(0, 60)", x.changed(0, 60), 0);
      is("changedAt(0, 60, 0)", x.changedAt(0, 60, 0), NONE);
      is("sure(0, 60)", x.sure(0, 60), 0);
      is("look(0, 60)", x.look(0, 60), NONE);
      is("tide(999)", x.tide(999), 0);
      is("wets(0, 0, 999)", x.wets(0, 0, 999), 5);
      is("minutes(99)", x.minutes(99), 0);
      is("minute", x.count(6), 99);
      is("undo(1)", x.undo(1), 0);
      is("afternoon(1, 30)", x.afternoon(1, 30), x.count(6));
    });
    sentence(1, "TRAYS are MISSING", () -> {
      for (int t = 0; t < 4; t++) {
        int tray = t;
        refused("judge", FrontChairs::new, STATE, x -> x.judge(tray, 0));
        refused("perform", FrontChairs::new, STATE, x -> x.perform(tray));
        refused("write", FrontChairs::new, STATE, x -> x.write(tray, 0, 0));
        refused("copy", () -> told("beach 1 1;person at 0 0;"), STATE, x -> x.copy(tray, 0));
      }
    });
    sentence(1, "an empty tape", () -> {
      is("count(9)", new FrontChairs().count(9), 0);
      refused("beach(1)", FrontChairs::new, ARGUMENT, x -> x.beach(1));
      is("beach(0)", new FrontChairs().beach(0), -12);
    });
    sentence(1, "IMAGES 0 to 2: none at first; no DEEDS", () -> {
      for (int i = 0; i < 3; i++) {
        int image = i;
        refused("restore(" + i + ")", FrontChairs::new, STATE, x -> { x.restore(image); return 0; });
      }
      refused("undo(1)", FrontChairs::new, ARGUMENT, x -> x.undo(1));
    });
  }

  private static void chairs() {
    sentence(5, "NoSuchElementException: no such CHAIR", () -> {
      FrontChairs x = large();
      is("chair(3, 4)", x.chair(3, 4), 1);
      is("chair(0, 0)", x.chair(0, 0), 0);
      is("chair(3, 0)", x.chair(3, 0), 3);
      is("chair(0, 4)", x.chair(0, 4), 2);
      int[][] none = {{4, 0}, {0, 5}, {-1, 0}, {0, -1}, {-1, 5}, {4, -1}, {LEAST, 0}, {MOST, 0}, {0, LEAST}, {0, MOST}};
      for (int[] c : none) { refused("chair(" + c[0] + ", " + c[1] + ")", DeedBoundaries::large, NO_SUCH, y -> y.chair(c[0], c[1])); }
      int[][] less = {{2, 0}, {0, 4}, {3, 4}, {1, 4}};
      for (int[] c : less) { refused("chair(" + c[0] + ", " + c[1] + ") of 2 and 4", DeedBoundaries::rich, NO_SUCH, y -> y.chair(c[0], c[1])); }
    });
    sentence(5, "NONE: it is FREE", () -> {
      FrontChairs x = large();
      is("told nobody", x.chair(1, 1), NONE);
      x.rise(1);
      is("left", x.chair(3, 4), NONE);
      is("sit(1, 0)", x.sit(1, 0), 3);
      is("taken", x.chair(0, 3), 1);
    });
  }

  private static void people() {
    sentence(6, "NoSuchElementException: no such PERSON (as everywhere)", () -> {
      is("person(7, 1)", large().person(7, 1), 2);
      refusedEach("person, 0", DeedBoundaries::rich, NO_SUCH, NO_PERSON_OF_SIX, (x, p) -> x.person(p, 0));
      refusedEach("person, another what", DeedBoundaries::rich, NO_SUCH, NO_PERSON_OF_SIX, (x, p) -> x.person(p, 8));
      refused("person(8, 0) of eight", DeedBoundaries::large, NO_SUCH, x -> x.person(8, 0));
    });
    sentence(6, "as everywhere", () -> {
      AskOf[] all = {(x, p) -> x.moves(p, 0, 0) ? 1 : 0, (x, p) -> x.sits(p, 0), (x, p) -> x.wetIn(p), (x, p) -> x.frontIn(p),
          (x, p) -> x.bring(p, 0, 0), (x, p) -> x.faints(p, 0, 0), (x, p) -> x.hands(p, 1), (x, p) -> x.hands(1, p),
          (x, p) -> x.relay(p), (x, p) -> x.cut(p, 1), (x, p) -> x.cut(1, p), (x, p) -> x.dry(p, 0, 0),
          (x, p) -> x.where(p, 0), (x, p) -> x.copy(0, p)};
      for (int i = 0; i < all.length; i++) { refusedEach("call " + i, DeedBoundaries::rich, NO_SUCH, NO_PERSON_OF_SIX, all[i]); }
    });
    sentence(6, "IllegalArgumentException: another what", () -> {
      refusedEach("person", DeedBoundaries::rich, ARGUMENT, new int[] {-1, 8, 10, LEAST, MOST}, (x, what) -> x.person(0, what));
    });
    sentence(6, "what 0: its COLUMN (where it sat last, if it is UP)", () -> {
      FrontChairs x = two();
      x.swap(0, 3);
      x.rise(0);
      is("where it was swapped to", x.person(0, 0), 1);
      x.sit(0, 0);
      is("nowhere else to sit", x.person(0, 1), NONE);
      x.sit(0, 1);
      x.rise(0);
      is("where it sat down", x.person(0, 0), 1);
    });
    sentence(6, "1: its ROW (NONE: it is UP)", () -> {
      FrontChairs x = large();
      is("the last row", x.person(1, 1), 4);
      is("row 0", x.person(3, 1), 0);
      x.rise(1);
      is("up", x.person(1, 1), NONE);
    });
    sentence(6, "3: 1 if ASLEEP, 4: 1 if WET, else 0", () -> {
      FrontChairs x = after("beach 2 1;person at 0 0 asleep;person at 1 0;tide:1-minute;", 0);
      is("asleep", x.person(0, 3), 1);
      is("not asleep", x.person(1, 3), 0);
      is("not wet", x.person(0, 4), 0);
      x.minutes(1);
      is("wet", x.person(0, 4), 1);
      x.minutes(9);
      is("for good", x.person(0, 4), 1);
      is("the eighth", large().person(7, 3), 1);
    });
    sentence(6, "5: the MINUTE of its plan (NONE), 6: for how many (NONE)", () -> {
      FrontChairs x = after("beach 2 1;person at 0 0 rises 0 for 1;person at 1 0;", 9);
      is("a plan that is over", x.person(0, 5), 0);
      is("for", x.person(0, 6), 1);
      is("none", x.person(1, 5), NONE);
      is("none", x.person(1, 6), NONE);
    });
    sentence(6, "7: the MINUTE in which it would SIT by its plan (NONE: it isn't UP by it)", () -> {
      FrontChairs x = told("beach 1 2;person at 0 0 rises 999 for 99;person at 0 1 rises 999 for 1;minute 999;");
      is("not yet", x.person(0, 7), NONE);
      x.minutes(1);
      is("999 and 99", x.person(0, 7), 1098);
      is("999 and 1", x.person(1, 7), 1000);
      x.minutes(1);
      is("it sat", x.person(1, 7), NONE);
      x.rise(1);
      is("up by hand", x.person(1, 7), NONE);
      x.sit(0, 0);
      is("sits by hand", x.person(0, 7), NONE);
      x.rise(0);
      is("up by hand then", x.person(0, 7), NONE);
    });
  }

  private static void tides() {
    sentence(7, "IllegalArgumentException: n", () -> {
      refusedEach("tide", DeedBoundaries::rich, ARGUMENT, new int[] {-1, 1000, LEAST, MOST}, (x, n) -> x.tide(n));
    });
    sentence(7, "in n MINUTES (0 to 999)", () -> {
      FrontChairs x = told("beach 1 5;tide:minute-999-997;minute 999;");
      is("tide(0)", x.tide(0), 0);
      is("tide(998)", x.tide(998), 1);
      is("tide(999)", x.tide(999), 2);
      FrontChairs y = told("beach 1 5;tide:3-minute;");
      is("tide(0) in minute 0", y.tide(0), 3);
      y.minutes(1);
      is("tide(0) in minute 1", y.tide(0), 2);
    });
    sentence(7, "0 at least, ROWS at most (without one: 0)", () -> {
      for (int rows = 1; rows <= 5; rows++) {
        FrontChairs x = told("beach 1 " + rows + ";tide:minute-3;");
        for (int n = 0; n < 12; n++) { is("tide(" + n + ") of " + rows, x.tide(n), Math.max(0, Math.min(rows, n - 3))); }
        is("without", told("beach 1 " + rows + ";").tide(999), 0);
        is("a million", told("beach 1 " + rows + ";tide:999*999*999;").tide(0), rows);
        is("minus a million", told("beach 1 " + rows + ";tide:0-999*999*999;").tide(0), 0);
      }
    });
  }

  private static void movesAlone() {
    sentence(8, "NoSuchElementException: the PERSON", () -> {
      refusedEach("moves", DeedBoundaries::rich, NO_SUCH, NO_PERSON_OF_SIX, (x, p) -> x.moves(p, 0, 0) ? 1 : 0);
    });
    sentence(8, "NoSuchElementException: the CHAIR", () -> {
      int[][] none = {{-1, 0}, {2, 0}, {0, -1}, {0, 4}, {LEAST, 0}, {MOST, 0}, {0, LEAST}, {0, MOST}};
      for (int[] c : none) { refused("moves(0, " + c[0] + ", " + c[1] + ")", DeedBoundaries::rich, NO_SUCH, x -> x.moves(0, c[0], c[1]) ? 1 : 0); }
      refused("moves(6, 9, 9)", DeedBoundaries::rich, NO_SUCH, x -> x.moves(6, 9, 9) ? 1 : 0);
      is("moves(7, 3, 4)", large().moves(7, 3, 4) ? 1 : 0, 1);
    });
    sentence(8, "ASLEEP or not, wherever it is: the law alone", () -> {
      FrontChairs x = told("beach 2 3;person at 0 0 asleep;person at 0 1;person at 1 2;moves:column=1 and row=2;");
      x.rise(1);
      for (int p = 0; p < 3; p++) {
        for (int c = 0; c < 2; c++) {
          for (int r = 0; r < 3; r++) { is("moves(" + p + ", " + c + ", " + r + ")", x.moves(p, c, r) ? 1 : 0, c == 1 && r == 2 ? 1 : 0); }
        }
      }
    });
    sentence(8, "now", () -> {
      FrontChairs x = told("beach 1 1;person at 0 0;moves:minute=1;");
      is("in minute 0", x.moves(0, 0, 0) ? 1 : 0, 0);
      x.minutes(1);
      is("in minute 1", x.moves(0, 0, 0) ? 1 : 0, 1);
      x.minutes(1);
      is("in minute 2", x.moves(0, 0, 0) ? 1 : 0, 0);
    });
    sentence(8, "the law moves holds (without one: always)", () -> {
      FrontChairs x = large();
      for (int p = 0; p < 8; p++) { is("moves(" + p + ", 0, 0)", x.moves(p, 0, 0) ? 1 : 0, 1); }
    });
  }

  private static void wetted() {
    sentence(9, "in n MINUTES (0 to 999)", () -> {
      FrontChairs x = told("beach 4 5;wets:minute-999-991;minute 999;");
      is("wets(3, 4, 0)", x.wets(3, 4, 0), 0);
      is("wets(3, 4, 999)", x.wets(3, 4, 999), 8);
    });
    sentence(9, "IllegalArgumentException: n", () -> {
      refusedEach("wets", DeedBoundaries::rich, ARGUMENT, new int[] {-1, 1000, LEAST, MOST}, (x, n) -> x.wets(0, 0, n));
    });
    sentence(9, "NoSuchElementException: the CHAIR", () -> {
      int[][] none = {{-1, 0}, {2, 0}, {0, -1}, {0, 4}, {LEAST, 0}, {MOST, 0}, {0, LEAST}, {0, MOST}};
      for (int[] c : none) {
        refused("wets(" + c[0] + ", " + c[1] + ", 0)", DeedBoundaries::rich, NO_SUCH, x -> x.wets(c[0], c[1], 0));
        refused("wets(" + c[0] + ", " + c[1] + ", 1000)", DeedBoundaries::rich, NO_SUCH, x -> x.wets(c[0], c[1], 1000));
      }
    });
    sentence(9, "0 at least, 10 at most (without one: 5 in ROW 0, else 0)", () -> {
      FrontChairs x = told("beach 1 1;wets:minute-3;");
      for (int n = 0; n < 17; n++) { is("wets(0, 0, " + n + ")", x.wets(0, 0, n), Math.max(0, Math.min(10, n - 3))); }
      FrontChairs y = large();
      for (int r = 0; r < 5; r++) { is("without, row " + r, y.wets(3, r, 999), r == 0 ? 5 : 0); }
    });
  }

  private static void rises() {
    sentence(10, "below 0: less why it can't be (nothing happens): 1 no such PERSON", () -> {
      for (int p : NO_PERSON_OF_SIX) { only("rise(" + p + ")", DeedBoundaries::rich, -1, x -> x.rise(p)); }
      only("rise(8) of eight", DeedBoundaries::large, -1, x -> x.rise(8));
    });
    sentence(10, "2 it is UP", () -> {
      only("up by hand", DeedBoundaries::rich, -2, x -> x.rise(0));
      only("up by its plan", DeedBoundaries::rich, -2, x -> x.rise(4));
    });
    sentence(10, "3 it is ASLEEP", () -> only("asleep", DeedBoundaries::rich, -3, x -> x.rise(3)));
    sentence(10, "how many came forward", () -> {
      String five = "beach 1 5;person at 0 0;person at 0 1;person at 0 2;person at 0 3;person at 0 4;";
      for (int p = 0; p < 5; p++) { is("rise(" + p + ") of five", told(five).rise(p), 4 - p); }
      is("alone", told("beach 1 1;person at 0 0;").rise(0), 0);
      is("none behind it", told("beach 1 2;person at 0 0;person at 0 1;").rise(1), 0);
      is("over free chairs", told("beach 1 5;person at 0 0;person at 0 4;").rise(0), 1);
      is("none of another column", told("beach 2 2;person at 0 0;person at 1 1;").rise(0), 0);
    });
  }

  private static void whoComes() {
    sentence(10, "behind it (in greater ROWS): none in front of it comes", () -> {
      FrontChairs x = told("beach 1 3;person at 0 0;person at 0 1;person at 0 2;");
      x.rise(1);
      sitSo("rise(1)", x, 0, "02.");
    });
    sentence(10, "the nearest one that isn't ASLEEP", () -> {
      FrontChairs x = told("beach 1 5;person at 0 0;person at 0 1 asleep;person at 0 2 asleep;person at 0 4;");
      is("rise(0)", x.rise(0), 1);
      sitSo("over two asleep", x, 0, "312..");
      FrontChairs y = told("beach 1 3;person at 0 0;person at 0 1 asleep;person at 0 2 asleep;");
      is("all asleep", y.rise(0), 0);
      sitSo("all asleep", y, 0, ".12");
    });
    sentence(10, "for whom the law moves holds", () -> {
      FrontChairs x = told("beach 1 4;person at 0 0;person at 0 1 age 9;person at 0 2 age 1;person at 0 3 age 9;moves:age<9;");
      is("rise(0)", x.rise(0), 1);
      sitSo("over one that may not", x, 0, "21.3");
    });
    sentence(10, "its own one is FREE then: likewise, till nobody comes", () -> {
      FrontChairs x = told("beach 1 5;person at 0 0;person at 0 2;person at 0 3;person at 0 4;moves:not row=3;");
      is("rise(0)", x.rise(0), 2);
      sitSo("nobody to row 3", x, 0, "1.2.3");
      FrontChairs y = told("beach 1 5;person at 0 0;person at 0 1;person at 0 2;person at 0 3;person at 0 4;moves:row=0;");
      is("only to row 0", y.rise(0), 1);
      sitSo("nobody to row 1", y, 0, "1.234");
    });
    sentence(10, "who, age: of who would come, column, row: of the FREE CHAIR, minute: MINUTE", () -> {
      FrontChairs x = told("beach 2 3;person at 1 0 age 5;person at 1 1 age 6;person at 1 2 age 7;minute 3;"
          + "moves:who=2 and age=7 and column=1 and row=0 and minute=3;");
      is("rise(0)", x.rise(0), 1);
      sitSo("2 alone may", x, 1, "21.");
      x.undo(1);
      x.minutes(1);
      is("in the next minute nobody may", x.rise(0), 0);
    });
  }

  private static void sitting() {
    sentence(11, "1 no such PERSON", () -> {
      for (int p : NO_PERSON_OF_SIX) {
        only("sit(" + p + ", 0)", DeedBoundaries::rich, -1, x -> x.sit(p, 0));
        only("sit(" + p + ", 2)", DeedBoundaries::rich, -1, x -> x.sit(p, 2));
      }
    });
    sentence(11, "1 no such COLUMN", () -> {
      for (int c : new int[] {-1, 2, 3, 4, LEAST, MOST}) {
        only("sit(0, " + c + ")", DeedBoundaries::rich, -1, x -> x.sit(0, c));
        only("sit(1, " + c + "), which sits", DeedBoundaries::rich, -1, x -> x.sit(1, c));
      }
    });
    sentence(11, "2 it sits", () -> {
      only("sit(1, 0)", DeedBoundaries::rich, -2, x -> x.sit(1, 0));
      Make full = () -> told("beach 2 1;person at 0 0;person at 1 0;");
      only("it sits, and none is free", full, -2, x -> x.sit(0, 1));
    });
    sentence(11, "3 no CHAIR of the COLUMN is FREE", () -> {
      Make full = () -> {
        FrontChairs x = told("beach 2 1;person at 0 0;person at 1 0;");
        x.rise(0);
        return x;
      };
      only("sit(0, 1)", full, -3, x -> x.sit(0, 1));
      is("the other one", full.make().sit(0, 0), 0);
    });
    sentence(11, "on the FREE CHAIR of a COLUMN with the greatest ROW", () -> {
      FrontChairs x = told("beach 2 5;person at 0 0;person at 0 1;person at 0 2;person at 0 3;person at 0 4;");
      for (int p = 0; p < 5; p++) { x.rise(p); }
      for (int p = 0; p < 5; p++) { is("sit(" + p + ", 1)", x.sit(p, 1), 4 - p); }
      FrontChairs y = told("beach 1 4;person at 0 1;person at 0 3;person at 0 0;moves:1=2;");
      y.rise(2);
      is("between others", y.sit(2, 0), 2);
      y.rise(1);
      is("its own one", y.sit(1, 0), 3);
    });
    sentence(11, "who SITS by hand is UP by its plan no more", () -> {
      FrontChairs x = after("beach 2 1;person at 0 0 rises 0 for 3;", 1);
      x.sit(0, 1);
      is("person(0, 7)", x.person(0, 7), NONE);
      x.rise(0);
      x.minutes(9);
      is("it stays up", x.person(0, 1), NONE);
    });
  }

  private static void swapping() {
    sentence(12, "1 no such PERSON", () -> {
      for (int p : NO_PERSON_OF_SIX) {
        only("swap(" + p + ", 1)", DeedBoundaries::rich, -1, x -> x.swap(p, 1));
        only("swap(1, " + p + ")", DeedBoundaries::rich, -1, x -> x.swap(1, p));
        only("swap(0, " + p + "), 0 being up", DeedBoundaries::rich, -1, x -> x.swap(0, p));
      }
    });
    sentence(12, "1 both one", () -> {
      only("swap(1, 1)", DeedBoundaries::rich, -1, x -> x.swap(1, 1));
      only("swap(0, 0), 0 being up", DeedBoundaries::rich, -1, x -> x.swap(0, 0));
      only("swap(6, 6)", DeedBoundaries::rich, -1, x -> x.swap(6, 6));
    });
    sentence(12, "2 it is UP", () -> {
      only("swap(0, 1)", DeedBoundaries::rich, -2, x -> x.swap(0, 1));
      only("swap(1, 0)", DeedBoundaries::rich, -2, x -> x.swap(1, 0));
      only("swap(0, 4)", DeedBoundaries::rich, -2, x -> x.swap(0, 4));
      only("swap(3, 4), 3 being asleep", DeedBoundaries::rich, -2, x -> x.swap(3, 4));
    });
    sentence(12, "who is swapped may be (ASLEEP)", () -> {
      FrontChairs x = told("beach 2 2;person at 0 0 asleep;person at 1 1 asleep;person at 0 1;");
      is("both asleep", x.swap(0, 1), 0);
      sitSo("swapped", x, 0, "12");
      sitSo("swapped", x, 1, ".0");
      is("one asleep", x.swap(2, 0), 0);
      is("of one column", x.swap(1, 0), 0);
      sitSo("swapped", x, 0, "01");
      is("deeds", x.count(8), 3);
    });
    sentence(12, "nobody comes forward, no law is asked", () -> {
      FrontChairs x = told("beach 1 3;person at 0 0;person at 0 1;person at 0 2;moves:1=2;");
      is("swap(2, 0)", x.swap(2, 0), 0);
      sitSo("swapped", x, 0, "210");
    });
  }

  private static void minutesOfOneCall() {
    sentence(13, "IllegalArgumentException: n", () -> {
      refusedEach("minutes", DeedBoundaries::rich, ARGUMENT, new int[] {0, -1, 100, LEAST, MOST}, (x, n) -> x.minutes(n));
    });
    sentence(13, "n MINUTES (1 to 99)", () -> {
      FrontChairs x = told("beach 1 1;minute 999;");
      x.minutes(1);
      is("1", x.count(6), 1000);
      x.minutes(99);
      is("99", x.count(6), 1099);
    });
    sentence(13, "how many got WET in these who weren't", () -> {
      FrontChairs x = told("beach 1 3;person at 0 0;person at 0 1;person at 0 2;tide:minute;");
      is("tide 0", x.minutes(1), 0);
      is("tide 1", x.minutes(1), 1);
      is("tides 2, 3, 3", x.minutes(3), 2);
      is("all are", x.minutes(99), 0);
      FrontChairs y = told("beach 1 1;person at 0 0;tide:1;");
      y.minutes(1);
      y.undo(1);
      is("undone, again", y.minutes(1), 1);
      FrontChairs z = told("beach 4 5;person at 0 0;person at 0 1;person at 1 0;person at 1 1;person at 2 0;person at 2 1;person at 3 0;person at 3 4;tide:9;");
      is("all eight", z.minutes(1), 8);
    });
    sentence(13, "MINUTES of one call: one DEED", () -> {
      FrontChairs x = told("beach 1 1;");
      x.minutes(99);
      is("deeds", x.count(8), 1);
      is("undo(1)", x.undo(1), 0);
      is("minute", x.count(6), 0);
    });
  }

  private static void plans() {
    sentence(13, "(1) has been for as long as told", () -> {
      FrontChairs x = told("beach 1 1;person at 0 0 rises 2 for 3;");
      int[] up = {0, 0, 0, 1, 1, 1, 0, 0};
      for (int i = 0; i < up.length; i++) {
        is("up in minute " + i, x.count(4), up[i]);
        x.minutes(1);
      }
      FrontChairs y = told("beach 1 1;person at 0 0 rises 0 for 1;");
      y.minutes(1);
      is("for 1: up", y.count(4), 1);
      y.minutes(1);
      is("for 1: back", y.count(4), 0);
      FrontChairs z = after("beach 1 1;person at 0 0 rises 999 for 99;minute 999;", 99);
      is("for 99: up", z.count(4), 1);
      z.minutes(1);
      is("for 99: back", z.count(4), 0);
    });
    sentence(13, "SITS in the COLUMN where it sat last", () -> {
      FrontChairs x = told("beach 2 2;person at 0 0 rises 1 for 1;person at 1 0;");
      x.swap(0, 1);
      x.minutes(3);
      is("column", x.person(0, 0), 1);
      is("at the back", x.person(0, 1), 1);
    });
    sentence(13, "one behind the other by numbers", () -> {
      FrontChairs x = after("beach 1 3;person at 0 2 rises 0 for 2;person at 0 1 rises 1 for 1;person at 0 0 rises 0 for 2;", 3);
      sitSo("all in minute 2", x, 0, "210");
    });
    sentence(13, "if none is FREE there, it tries in each MINUTE again", () -> {
      FrontChairs x = after("beach 2 1;person at 0 0 rises 0 for 1;person at 1 0;", 1);
      x.rise(1);
      x.sit(1, 0);
      x.minutes(5);
      is("still up", x.person(0, 1), NONE);
      is("nowhere else", x.chair(1, 0), NONE);
      x.rise(1);
      is("not at once", x.person(0, 1), NONE);
      x.minutes(1);
      is("then", x.person(0, 1), 0);
    });
    sentence(13, "(1) ahead of (2): who sits down may take a CHAIR only then FREE the MINUTE after", () -> {
      FrontChairs x = after("beach 2 1;person at 0 0 rises 0 for 1;person at 1 0 rises 1 for 9;", 1);
      x.rise(1);
      x.sit(1, 0);
      x.minutes(1);
      is("1 rises in minute 1, 0 had tried", x.count(4), 3);
      x.minutes(1);
      is("0 sits in minute 2", x.count(4), 2);
    });
    sentence(13, "(2) if it sits and isn't ASLEEP", () -> {
      FrontChairs x = told("beach 3 1;person at 0 0 asleep rises 0 for 2;person at 1 0 rises 0 for 2;person at 2 0 rises 0 for 2;");
      x.rise(1);
      x.minutes(1);
      is("asleep stays", x.person(0, 1), 0);
      is("up already: not by its plan", x.person(1, 7), NONE);
      is("by its plan", x.person(2, 7), 2);
      x.minutes(9);
      is("who is UP otherwise stays so", x.count(4), 2);
    });
    sentence(13, "Whose plan is for this MINUTE", () -> {
      FrontChairs x = after("beach 2 1;person at 0 0 rises 4 for 9;person at 1 0 rises 5 for 9;minute 5;", 1);
      is("a plan of a minute gone by is none", x.count(4), 2);
      FrontChairs y = after("beach 1 1;person at 0 0 rises 2 for 9;", 2);
      is("not yet", y.count(4), 0);
      y.minutes(1);
      is("in minute 2", y.count(4), 1);
    });
    sentence(13, "RISES by it, by numbers", () -> {
      FrontChairs x = after("beach 1 3;person at 0 0 rises 0 for 9;person at 0 1 rises 0 for 9;person at 0 2;moves:row=1;", 1);
      sitSo("0, then 1 from row 1", x, 0, ".2.");
      FrontChairs y = after("beach 1 3;person at 0 1 rises 0 for 9;person at 0 0 rises 0 for 9;person at 0 2;moves:row=1;", 1);
      sitSo("row 1, then row 0", y, 0, ".2.");
      FrontChairs z = after("beach 1 3;person at 0 0 rises 0 for 9;person at 0 1 rises 0 for 9;person at 0 2;moves:row=0;", 1);
      sitSo("1 came to row 0, then rose", z, 0, "2..");
      FrontChairs w = after("beach 1 3;person at 0 1 rises 0 for 9;person at 0 0 rises 0 for 9;person at 0 2;moves:row=1 or who=0;", 1);
      sitSo("2 came to row 1, and may not to row 0", w, 0, ".2.");
    });
  }

  private static void tideOfAMinute() {
    sentence(13, "so many ROWS, from 0 on: Who sits in one of these is WET", () -> {
      for (int tide = 0; tide <= 5; tide++) {
        FrontChairs x = told("beach 1 5;person at 0 0;person at 0 1;person at 0 2;person at 0 3;person at 0 4;tide:" + tide + ";");
        is("minutes(1)", x.minutes(1), tide);
        is("wet by tide " + tide, x.count(5), (1 << tide) - 1);
      }
    });
    sentence(13, "WET, for good", () -> {
      FrontChairs x = after("beach 1 2;person at 0 0;person at 0 1;tide:1-minute;", 1);
      x.rise(0);
      x.minutes(9);
      is("wet", x.count(5), 1);
    });
    sentence(13, "(3) The TIDE is as in this MINUTE: who is UP isn't WET, nor who sits behind", () -> {
      FrontChairs x = told("beach 1 2;person at 0 0 rises 0 for 1;person at 0 1;tide:1-minute;");
      is("who came forward", x.minutes(1), 1);
      is("it", x.count(5), 2);
      FrontChairs y = told("beach 1 1;person at 0 0;tide:1;");
      y.rise(0);
      is("nobody sits", y.minutes(9), 0);
      y.sit(0, 0);
      is("not at once", y.count(5), 0);
      is("in the next minute", y.minutes(1), 1);
      FrontChairs z = after("beach 1 2;person at 0 0;person at 0 1;tide:1-minute;", 1);
      z.swap(0, 1);
      is("swapped behind the tide", z.count(5), 1);
    });
    sentence(13, "(1) and (2) ahead of (3)", () -> {
      FrontChairs x = told("beach 1 1;person at 0 0 rises 0 for 1;tide:minute*(2-minute);");
      x.minutes(1);
      is("it sits in minute 1, and is wet in it", x.minutes(1), 1);
    });
    sentence(13, "MINUTE is 1 more", () -> {
      FrontChairs x = told("beach 1 1;minute 999;");
      x.minutes(1);
      is("behind 999", x.count(6), 1000);
    });
  }

  private static FrontChairs tenAndMore(int deeds) {
    FrontChairs x = told("beach 1 1;");
    for (int i = 0; i < deeds; i++) { x.minutes(1); }
    return x;
  }

  private static void undoing() {
    sentence(14, "IllegalArgumentException: n isn't 1 to 10", () -> {
      refusedEach("undo", () -> tenAndMore(12), ARGUMENT, new int[] {0, -1, 11, 12, LEAST, MOST}, (x, n) -> x.undo(n));
    });
    sentence(14, "n DEEDS are UNDONE: how many still can be", () -> {
      for (int n = 1; n <= 10; n++) { is("undo(" + n + ") of ten", tenAndMore(12).undo(n), 10 - n); }
    });
    sentence(14, "IllegalArgumentException: there aren't so many", () -> {
      refused("undo(1) of none", DeedBoundaries::two, ARGUMENT, x -> x.undo(1));
      refused("undo(4) of three", DeedBoundaries::rich, ARGUMENT, x -> x.undo(4));
      refused("undo(10) of nine", () -> tenAndMore(9), ARGUMENT, x -> x.undo(10));
      is("undo(9) of nine", tenAndMore(9).undo(9), 0);
      is("undo(3) of three", rich().undo(3), 0);
    });
    sentence(14, "how many still can be", () -> {
      FrontChairs x = tenAndMore(5);
      is("undo(2)", x.undo(2), 3);
      is("undo(1)", x.undo(1), 2);
      is("undo(2)", x.undo(2), 0);
    });
    sentence(14, "each can be UNDONE, the latest first", () -> {
      FrontChairs x = rich();
      String[] before = new String[5];
      x.restore(2);
      before[0] = seen(x);
      x.rise(2);
      before[1] = seen(x);
      x.sit(2, 0);
      before[2] = seen(x);
      x.swap(5, 3);
      before[3] = seen(x);
      x.minutes(7);
      for (int i = 3; i >= 0; i--) {
        x.undo(1);
        holds("deed " + i + " is undone", seen(x).equals(before[i]));
      }
    });
    sentence(14, "10 at most (eldest are forgotten)", () -> {
      for (int deeds = 9; deeds <= 23; deeds++) {
        FrontChairs x = tenAndMore(deeds);
        is("count(8)", x.count(8), Math.min(10, deeds));
        x.undo(Math.min(10, deeds));
        is("back to", x.count(6), Math.max(0, deeds - 10));
      }
      FrontChairs x = tenAndMore(13);
      x.undo(4);
      x.minutes(2);
      x.minutes(2);
      is("6 and 2", x.count(8), 8);
      is("undo(7)", x.undo(7), 1);
      is("minute", x.count(6), 4);
      is("undo(1)", x.undo(1), 0);
      is("minute", x.count(6), 3);
    });
    sentence(14, "what can't be is no DEED", () -> {
      FrontChairs x = two();
      x.rise(9);
      x.rise(3);
      x.sit(0, 0);
      x.swap(0, 0);
      is("deeds", x.count(8), 0);
    });
  }

  private static void judging() {
    sentence(15, "NoSuchElementException: no such TRAY", () -> {
      refusedEach("judge", DeedBoundaries::rich, NO_SUCH, new int[] {-1, 4, LEAST, MOST}, (x, t) -> x.judge(t, 9));
    });
    sentence(16, "NoSuchElementException: no such TRAY (as below)", () -> {
      refusedEach("perform", DeedBoundaries::rich, NO_SUCH, new int[] {-1, 4, LEAST, MOST}, (x, t) -> x.perform(t));
    });
    sentence(16, "IllegalStateException: it is MISSING (as below)", () -> {
      refused("perform(2)", DeedBoundaries::rich, STATE, x -> x.perform(2));
    });
    sentence(15, "IllegalStateException: it is MISSING", () -> {
      refused("judge(2, 0)", DeedBoundaries::rich, STATE, x -> x.judge(2, 0));
      refused("judge(2, 9)", DeedBoundaries::rich, STATE, x -> x.judge(2, 9));
    });
    sentence(15, "IllegalArgumentException: another what", () -> {
      refusedEach("judge", DeedBoundaries::rich, ARGUMENT, new int[] {-1, 4, LEAST, MOST}, (x, what) -> x.judge(0, what));
      refused("judge of no deeds", DeedBoundaries::rich, ARGUMENT, x -> x.judge(1, 4));
    });
    sentence(15, "what 0: the first place that can't be (NONE), 1: why (0)", () -> {
      FrontChairs x = two();
      lay(x, 3, 3, 9, 0);
      is("the first", x.judge(3, 0), 0);
      is("why", x.judge(3, 1), 1);
      x.tray(3, 3, 30);
      for (int i = 0; i < 29; i++) { x.write(3, i, NONE); }
      is("all can be", x.judge(3, 0), NONE);
      is("why not", x.judge(3, 1), 0);
      x.write(3, 29, 3);
      is("the last", x.judge(3, 0), 29);
      is("why", x.judge(3, 1), 3);
      x.write(3, 5, 101);
      is("the first of two", x.judge(3, 0), 5);
      is("its why", x.judge(3, 1), 2);
    });
    sentence(15, "2: who sits in ROW 0 then, as bits, 3: MINUTE then", () -> {
      FrontChairs x = two();
      lay(x, 1, 1);
      is("no deeds", x.judge(1, 2), 17);
      is("no deeds", x.judge(1, 3), 5);
      lay(x, 1, 1, 0, 4, 1);
      is("2 is left", x.judge(1, 2), 4);
      lay(x, 1, 1, 0, 1, 2, 4);
      is("nobody is left", x.judge(1, 2), 0);
      lay(x, 1, 1, NONE, 0, 0, NONE, 4);
      is("till one can't be", x.judge(1, 2), 18);
      is("till one can't be", x.judge(1, 3), 6);
    });
    sentence(15, "judged as if done", () -> {
      for (int what = 0; what < 4; what++) {
        int asked = what;
        long[] want = {4, 3, 2, 9};
        only("judge(0, " + what + ")", DeedBoundaries::rich, want[what], x -> x.judge(0, asked));
      }
    });
  }

  private static int why(FrontChairs x, long deed) {
    lay(x, 3, 3, deed);
    return x.judge(3, 1);
  }

  private static void toldDeeds() {
    sentence(15, "0 to 9: PERSON v RISES", () -> {
      FrontChairs x = large();
      for (int v = 0; v < 10; v++) { is("why not " + v, why(x, v), v > 7 ? 1 : v == 7 ? 3 : 0); }
      x.rise(1);
      is("up", why(x, 1), 2);
    });
    sentence(15, "100 and 10 p and c: p SITS in COLUMN c", () -> {
      FrontChairs x = two();
      x.rise(0);
      for (int p = 0; p < 10; p++) {
        for (int c = 0; c < 10; c++) {
          is("why not " + (100 + 10 * p + c), why(x, 100 + 10 * p + c), p > 4 || c > 1 ? 1 : p == 0 ? 0 : 2);
        }
      }
      FrontChairs full = told("beach 2 1;person at 0 0;person at 1 0;");
      full.rise(0);
      is("full", why(full, 101), 3);
      is("not full", why(full, 100), 0);
    });
    sentence(15, "200 and 10 p and q: they SWAP", () -> {
      FrontChairs x = two();
      x.rise(0);
      for (int p = 0; p < 10; p++) {
        for (int q = 0; q < 10; q++) {
          is("why not " + (200 + 10 * p + q), why(x, 200 + 10 * p + q), p > 4 || q > 4 || p == q ? 1 : p == 0 || q == 0 ? 2 : 0);
        }
      }
    });
    sentence(15, "others to 299: 1", () -> {
      FrontChairs x = large();
      for (int v = 10; v < 100; v++) { is("why not " + v, why(x, v), 1); }
    });
    sentence(15, "NONE: a MINUTE; others: 1", () -> {
      FrontChairs x = large();
      is("NONE", why(x, NONE), 0);
      is("a minute", x.judge(3, 3), 1);
      for (long v : new long[] {300, 301, 999, -2, -3, -100, -101, 1L << 32, (1L << 32) - 1, -1L << 32, (1L << 32) + 100,
          Long.MAX_VALUE, Long.MIN_VALUE, Integer.MAX_VALUE, Integer.MIN_VALUE, -(1L << 32) - 1}) {
        is("why not " + v, why(x, v), 1);
      }
    });
  }

  private static void performing() {
    sentence(16, "till one can't be: how many were", () -> {
      FrontChairs x = two();
      lay(x, 0, 0, 0, 0, 1);
      is("perform", x.perform(0), 1);
      is("1 sits still", x.person(1, 1), 0);
      is("deeds", x.count(8), 1);
      Make firstNot = () -> {
        FrontChairs y = rich();
        lay(y, 2, 0, 3, NONE, NONE);
        return y;
      };
      only("the first can't be", firstNot, 0, y -> y.perform(2));
      only("no deeds", DeedBoundaries::rich, 0, y -> y.perform(1));
    });
    sentence(16, "each a DEED", () -> {
      FrontChairs x = two();
      x.tray(3, 0, 30);
      for (int i = 0; i < 30; i++) { x.write(3, i, NONE); }
      is("thirty", x.perform(3), 30);
      is("minute", x.count(6), 35);
      is("deeds", x.count(8), 10);
      x.undo(10);
      is("ten back", x.count(6), 25);
      FrontChairs y = two();
      lay(y, 1, 1, 0, 101, 203, NONE);
      is("four", y.perform(1), 4);
      for (int left = 3; left >= 0; left--) { is("undo(1)", y.undo(1), left); }
      same("all undone", y, laid());
    });
    sentence(16, "They are done: as by hand", () -> {
      FrontChairs x = rich();
      FrontChairs y = rich();
      is("perform", x.perform(0), 4);
      y.rise(2);
      y.sit(0, 1);
      y.swap(1, 5);
      y.minutes(1);
      same("as by hand", x, y);
    });
  }

  private static FrontChairs laid() {
    FrontChairs x = two();
    lay(x, 1, 1, 0, 101, 203, NONE);
    return x;
  }

  private static int[] drawn(int seed, int many) {
    int[] d = new int[many];
    int x = seed;
    for (int i = 0; i < many; i++) {
      x = 1103515245 * x + 12345;
      d[i] = x >>> 16;
    }
    return d;
  }

  /** The same afternoon by hand. */
  private static int byHand(FrontChairs x, int seed, int times) {
    int[] d = drawn(seed, 3 * times);
    int at = 0;
    int done = 0;
    for (int i = 0; i < times; i++) {
      int sort = d[at++] % 5;
      int answer;
      if (sort < 2) {
        answer = x.minutes(1);
      } else if (sort == 2) {
        answer = x.rise(d[at++] % 8);
      } else if (sort == 3) {
        answer = x.sit(d[at] % 8, d[at + 1] % 4);
        at += 2;
      } else {
        answer = x.swap(d[at] % 8, d[at + 1] % 8);
        at += 2;
      }
      if (answer >= 0) { done++; }
    }
    return done;
  }

  private static void afternoons() {
    sentence(17, "IllegalArgumentException: how many times", () -> {
      refusedEach("afternoon", DeedBoundaries::rich, ARGUMENT, new int[] {0, -1, 31, LEAST, MOST}, (x, times) -> x.afternoon(1, times));
    });
    sentence(17, "so many times (1 to 30), by a SEED (x, an int", () -> {
      for (int seed : new int[] {0, 1, -1, LEAST, MOST, 12345, -987654321}) {
        for (int times : new int[] {1, 2, 29, 30}) {
          FrontChairs x = rich();
          FrontChairs y = rich();
          is("afternoon(" + seed + ", " + times + ")", x.afternoon(seed, times), byHand(y, seed, times));
          same("as by hand", x, y);
        }
      }
    });
    sentence(17, "if it can be: of eight people, four columns, and of fewer", () -> {
      for (int seed = 0; seed < 60; seed++) {
        FrontChairs x = seed % 2 == 0 ? large() : told("beach 1 1;person at 0 0;");
        FrontChairs y = seed % 2 == 0 ? large() : told("beach 1 1;person at 0 0;");
        is("afternoon", x.afternoon(seed * 7919, 30), byHand(y, seed * 7919, 30));
        same("as by hand", x, y);
      }
    });
    sentence(17, "each a DEED: 10 at most", () -> {
      FrontChairs x = told("beach 1 1;");
      int done = x.afternoon(5, 30);
      is("deeds", x.count(8), Math.min(10, done));
      is("minute", x.count(6), done);
    });
  }
}
