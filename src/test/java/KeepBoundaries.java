/** Boundary cases of trays, images and counts, and of throws: promises 39 to 44. */
public final class KeepBoundaries extends Sentences {
  private static final int[] NO_TRAY = {-1, 4, LEAST, MOST};
  private static final int[] NO_IMAGE = {-1, 3, LEAST, MOST};

  public static void main(String[] args) {
    trayLaid();
    written();
    copied();
    imagesMade();
    imagesHold();
    counts();
    firstTold();
    anyArguments();
    end();
  }

  private static void trayLaid() {
    sentence(39, "NoSuchElementException: no such TRAY", () -> {
      refusedEach("tray", KeepBoundaries::rich, NO_SUCH, NO_TRAY, (x, t) -> { x.tray(t, 0, 0); return 0; });
      refusedEach("tray, all wrong", KeepBoundaries::rich, NO_SUCH, NO_TRAY, (x, t) -> { x.tray(t, 4, 31); return 0; });
      for (int t = 0; t < 4; t++) {
        FrontChairs x = told("beach 1 1;");
        x.tray(t, 0, 1);
        is("write(" + t + ", 0, 5)", x.write(t, 0, 5), 5);
      }
    });
    sentence(39, "IllegalArgumentException: no such sort", () -> {
      refusedEach("tray laid", KeepBoundaries::rich, ARGUMENT, new int[] {-1, 4, LEAST, MOST}, (x, sort) -> { x.tray(0, sort, 3); return 0; });
      refusedEach("tray missing", KeepBoundaries::rich, ARGUMENT, new int[] {-1, 4, LEAST, MOST}, (x, sort) -> { x.tray(2, sort, 3); return 0; });
    });
    sentence(39, "IllegalArgumentException: or not so many", () -> {
      refusedEach("tray laid", KeepBoundaries::rich, ARGUMENT, new int[] {-1, 31, LEAST, MOST}, (x, many) -> { x.tray(0, 1, many); return 0; });
      refusedEach("tray missing", KeepBoundaries::rich, ARGUMENT, new int[] {-1, 31, LEAST, MOST}, (x, many) -> { x.tray(2, 1, many); return 0; });
    });
    sentence(39, "rows of 0 to 30 numbers", () -> {
      for (int many = 0; many <= 30; many++) {
        FrontChairs x = told("beach 1 1;person at 0 0;");
        x.tray(3, many % 4, many);
        is("copy", x.copy(3, 0), many);
        if (many > 0) { is("the last place", x.write(3, many - 1, 7), 7); }
        int places = many;
        is("no place more", thrown(x, y -> y.write(3, places, 7)).equals("IndexOutOfBoundsException") ? 1 : 0, 1);
      }
    });
    sentence(39, "A TRAY is a row of so many 0s", () -> {
      FrontChairs x = two();
      lay(x, 1, 0, NONE, NONE, NONE);
      x.tray(1, 3, 3);
      is("0 rises, then can't", x.judge(1, 0), 1);
      is("0, not another", x.judge(1, 2), 18);
      is("no minute", x.judge(1, 3), 5);
      lay(x, 1, 0, NONE);
      x.tray(1, 3, 2);
      is("0 rises, then can't", x.judge(1, 1), 2);
      x.tray(1, 0, 0);
      is("no deeds", x.judge(1, 0), NONE);
      is("not missing", x.perform(1), 0);
    });
    sentence(39, "each TRAY by itself", () -> {
      FrontChairs x = two();
      for (int t = 0; t < 4; t++) { lay(x, t, t, t); }
      int[] front = {18, 17, 17, 17};
      for (int t = 0; t < 4; t++) { is("judge(" + t + ", 2)", x.judge(t, 2), front[t]); }
      is("judge(3, 1)", x.judge(3, 1), 3);
    });
  }

  private static void written() {
    sentence(40, "NoSuchElementException: no such TRAY", () -> {
      refusedEach("write", KeepBoundaries::rich, NO_SUCH, NO_TRAY, (x, t) -> x.write(t, 99, 0));
    });
    sentence(40, "IllegalStateException: it is MISSING", () -> {
      refused("write(2, 0, 0)", KeepBoundaries::rich, STATE, x -> x.write(2, 0, 0));
      refused("write(2, 99, 0)", KeepBoundaries::rich, STATE, x -> x.write(2, 99, 0));
    });
    sentence(40, "IndexOutOfBoundsException: it has no such place", () -> {
      refusedEach("write", KeepBoundaries::rich, INDEX, new int[] {-1, 5, 29, 30, LEAST, MOST}, (x, place) -> x.write(0, place, NONE));
      refusedEach("write to no places", KeepBoundaries::rich, INDEX, new int[] {0, -1, 1}, (x, place) -> x.write(1, place, 0));
      FrontChairs x = rich();
      is("the first", x.write(0, 0, 1), 1);
      is("the last", x.write(0, 4, 1), 1);
    });
    sentence(40, "cut to its sort: as it is there", () -> {
      FrontChairs x = two();
      for (int sort = 0; sort < 4; sort++) { x.tray(sort, sort, 1); }
      for (int sort = 0; sort < 4; sort++) {
        int bits = 8 << sort;
        for (int i = 0; i < 64; i++) {
          for (long v : new long[] {1L << i, (1L << i) - 1, -(1L << i), -(1L << i) - 1, (1L << i) + 5}) {
            is("write(" + sort + ", 0, " + v + ")", x.write(sort, 0, v), v << 64 - bits >> 64 - bits);
          }
        }
        for (long v : new long[] {0, NONE, Long.MAX_VALUE, Long.MIN_VALUE}) {
          is("write(" + sort + ", 0, " + v + ")", x.write(sort, 0, v), v << 64 - bits >> 64 - bits);
        }
      }
    });
    sentence(40, "as it is there: so it is a TOLD DEED", () -> {
      FrontChairs x = two();
      lay(x, 0, 0, 255);
      is("255 of 8 bits is NONE: a minute", x.judge(0, 3), 6);
      lay(x, 0, 0, 256);
      is("256 of 8 bits is 0", x.judge(0, 2), 18);
      lay(x, 0, 1, 65535);
      is("65535 of 16 bits is NONE", x.judge(0, 3), 6);
      lay(x, 0, 2, (1L << 32) - 1);
      is("of 32 bits is NONE", x.judge(0, 3), 6);
      lay(x, 0, 3, (1L << 32) - 1);
      is("of 64 bits is none", x.judge(0, 1), 1);
      lay(x, 0, 0, 128);
      is("-128", x.judge(0, 1), 1);
      lay(x, 0, 0, 104);
      is("104", x.judge(0, 1), 1);
      lay(x, 0, 0, 203);
      is("203 of 8 bits is below 0", x.judge(0, 1), 1);
      lay(x, 0, 1, 203);
      is("203 of 16 bits", x.judge(0, 1), 0);
    });
  }

  private static void copied() {
    sentence(41, "NoSuchElementException: no such TRAY (as below)", () -> {
      refusedEach("copy", KeepBoundaries::rich, NO_SUCH, NO_TRAY, (x, t) -> x.copy(t, 0));
    });
    sentence(41, "NoSuchElementException: no such PERSON (as everywhere)", () -> {
      refusedEach("copy, person", KeepBoundaries::rich, NO_SUCH, new int[] {-1, 6, LEAST, MOST}, (x, p) -> x.copy(0, p));
      refusedEach("copy, person and a missing tray", KeepBoundaries::rich, NO_SUCH, new int[] {-1, 6, LEAST, MOST}, (x, p) -> x.copy(2, p));
    });
    sentence(41, "IllegalStateException: it is MISSING (as below)", () -> {
      refused("copy(2, 0)", KeepBoundaries::rich, STATE, x -> x.copy(2, 0));
    });
    sentence(41, "as many as it has places: how many", () -> {
      FrontChairs x = rich();
      is("no places", x.copy(1, 0), 0);
      is("five", x.copy(0, 1), 5);
      x.tray(2, 0, 30);
      is("thirty", x.copy(2, 1), 30);
      x.tray(2, 3, 1);
      is("one", x.copy(2, 1), 1);
    });
    sentence(41, "in 0, 1, 2 .. MINUTES, from its first place on", () -> {
      // What sits() tells is seen as deeds: NONE is a minute, 0 to 9 a rising, 10 and more can't be.
      FrontChairs x = told("beach 1 1;person at 0 0 rises 0 for 29;");
      x.tray(0, 0, 30);
      x.copy(0, 0);
      is("0, then NONE for 29: 0 rises, 29 minutes", x.judge(0, 0), NONE);
      is("minutes", x.judge(0, 3), 29);
      FrontChairs y = told("beach 1 1;person at 0 0 rises 0 for 28;");
      y.tray(0, 3, 30);
      y.copy(0, 0);
      is("in 29 MINUTES it sits again", y.judge(0, 0), 29);
      is("minutes", y.judge(0, 3), 28);
      FrontChairs z = told("beach 2 1;person at 1 0;");
      z.tray(0, 0, 1);
      z.copy(0, 0);
      is("10 can't be", z.judge(0, 1), 1);
    });
    sentence(41, "MINUTES to come: none goes by", () -> {
      FrontChairs x = rich();
      x.copy(0, 4);
      FrontChairs y = rich();
      lay(y, 0, 1, NONE, NONE, NONE, NONE, 12);
      same("as written by hand", x, y);
    });
  }

  private static void imagesMade() {
    sentence(42, "NoSuchElementException: no such one", () -> {
      refusedEach("image", KeepBoundaries::rich, NO_SUCH, NO_IMAGE, (x, i) -> { x.image(i); return 0; });
      FrontChairs x = rich();
      for (int i = 0; i < 3; i++) { x.image(i); }
      is("three can be", x.count(3), 6);
    });
    sentence(43, "NoSuchElementException: no such one", () -> {
      refusedEach("restore", KeepBoundaries::rich, NO_SUCH, NO_IMAGE, (x, i) -> { x.restore(i); return 0; });
    });
    sentence(43, "IllegalStateException: none was made", () -> {
      refused("restore(1)", KeepBoundaries::rich, STATE, x -> { x.restore(1); return 0; });
      for (int made = 0; made < 3; made++) {
        FrontChairs x = new FrontChairs();
        x.image(made);
        for (int i = 0; i < 3; i++) {
          int image = i;
          is("image(" + made + "), restore(" + i + ")", thrown(x, y -> { y.restore(image); return 0; }).equals("nothing") ? 1 : 0, i == made ? 1 : 0);
        }
      }
    });
    sentence(42, "An IMAGE is made: in place of an elder one", () -> {
      FrontChairs x = two();
      x.image(0);
      x.minutes(3);
      x.image(0);
      x.minutes(3);
      x.restore(0);
      is("minute", x.count(6), 8);
      is("deeds", x.count(8), 1);
    });
    sentence(42, "An IMAGE is made: of the new object, too", () -> {
      FrontChairs x = new FrontChairs();
      x.image(2);
      tell(x, LARGE);
      x.minutes(3);
      x.restore(2);
      int[] want = {0, 1, 1, 0, 0, 0, 0, 1, 0, 0};
      for (int i = 0; i < 10; i++) { is("count(" + i + ")", x.count(i), want[i]); }
    });
    sentence(42, "An IMAGE is made: nothing else changes", () -> {
      FrontChairs x = rich();
      x.image(1);
      is("seen", seen(x).equals(seen(rich())) && trays(x).equals(trays(rich())) ? 1 : 0, 1);
      is("fault", x.fault(0), 1);
      is("tape", x.count(9), 20);
    });
  }

  private static void imagesHold() {
    sentence(43, "All is as in an IMAGE: beach, people, laws, MINUTE, WET, plans, DEEDS", () -> {
      FrontChairs x = rich();
      x.image(1);
      x.sit(0, 1);
      x.minutes(50);
      tell(x, "");
      tell(x, LARGE);
      x.afternoon(3, 30);
      x.restore(1);
      is("seen", seen(x).equals(seen(rich())) ? 1 : 0, 1);
      is("undo(3)", x.undo(3), 0);
      FrontChairs y = rich();
      y.undo(3);
      is("undone", seen(x).equals(seen(y)) ? 1 : 0, 1);
    });
    sentence(43, "an IMAGE stays as it was", () -> {
      FrontChairs x = tenDeeds();
      x.image(0);
      String kept = seen(x);
      for (int i = 0; i < 3; i++) {
        x.undo(4);
        x.minutes(9);
        x.afternoon(i, 30);
        x.restore(0);
        is("restored " + i, seen(x).equals(kept) ? 1 : 0, 1);
        is("ten deeds", x.undo(10), 0);
        is("the minute that was", x.count(6), 5 + 2);
        x.restore(0);
      }
    });
    sentence(43, "all but the tape, the FAULT and TRAYS", () -> {
      FrontChairs x = two();
      x.image(0);
      lay(x, 0, 0, NONE, NONE);
      tell(x, "beach 1 1;?");
      feed(x, "beach 3 3;");
      x.restore(0);
      is("tape", x.count(9), 20);
      is("fault(0)", x.fault(0), 1);
      is("fault(1)", x.fault(1), 10);
      is("tray", x.judge(0, 3), 7);
      is("tape's text", x.beach(20), 1);
      is("of three columns", x.count(1), 3);
      x.restore(0);
      is("the fault stays mended", x.fault(0), 0);
      is("two columns", x.count(1), 2);
    });
    sentence(43, "an IMAGE of another beach", () -> {
      FrontChairs x = large();
      x.image(0);
      tell(x, "beach 1 1;person at 0 0;moves:1=2;tide:1;wets:7;minute 9;");
      x.image(1);
      x.restore(0);
      is("eight", x.count(3), 8);
      is("moves", x.moves(0, 3, 4) ? 1 : 0, 1);
      is("tide", x.tide(0), 0);
      is("wets", x.wets(3, 0, 0), 5);
      x.restore(1);
      is("one", x.count(3), 1);
      is("moves", x.moves(0, 0, 0) ? 1 : 0, 0);
      is("tide", x.tide(0), 1);
      is("wets", x.wets(0, 0, 0), 7);
      is("minute", x.count(6), 9);
      is("no chair more", thrown(x, y -> y.chair(0, 1)).equals("NoSuchElementException") ? 1 : 0, 1);
      is("no person more", thrown(x, y -> y.person(1, 0)).equals("NoSuchElementException") ? 1 : 0, 1);
    });
    sentence(43, "images are kept by other images and beaches", () -> {
      FrontChairs x = two();
      for (int i = 0; i < 3; i++) {
        x.minutes(1);
        x.image(i);
      }
      tell(x, "beach 1 1;");
      for (int i = 2; i >= 0; i--) {
        x.restore(i);
        is("minute of " + i, x.count(6), 6 + i);
      }
      x.restore(2);
      is("again", x.count(6), 8);
    });
  }

  private static FrontChairs tenDeeds() {
    FrontChairs x = two();
    for (int i = 0; i < 12; i++) { x.minutes(1); }
    return x;
  }

  private static void counts() {
    sentence(44, "NONE for others", () -> {
      for (int what : new int[] {-1, 10, 11, LEAST, MOST}) {
        is("count(" + what + ")", rich().count(what), NONE);
        is("count(" + what + ") at first", new FrontChairs().count(what), NONE);
      }
    });
    sentence(44, "0 LINES, 1 COLUMNS, 2 ROWS, 3 PEOPLE", () -> {
      int[] large = {9, 4, 5, 8};
      int[] least = {1, 1, 1, 0};
      for (int i = 0; i < 4; i++) {
        is("count(" + i + ") of the largest", large().count(i), large[i]);
        is("count(" + i + ") of the least", told("beach 1 1;").count(i), least[i]);
      }
    });
    sentence(44, "4 who is UP, 5 who is WET, as bits", () -> {
      FrontChairs x = told("beach 4 2;person at 0 0;person at 0 1;person at 1 0;person at 1 1;person at 2 0;person at 2 1;"
          + "person at 3 0;person at 3 1 rises 1 for 1;tide:2;");
      is("nobody up", x.count(4), 0);
      is("nobody wet", x.count(5), 0);
      x.minutes(1);
      is("all wet", x.count(5), 255);
      x.minutes(1);
      is("the eighth by its plan", x.count(4), 128);
      for (int p = 0; p < 8; p++) { x.rise(p); }
      is("all up", x.count(4), 255);
      is("wet still", x.count(5), 255);
      is("all chairs free", x.count(7), 8);
    });
    sentence(44, "7 FREE CHAIRS", () -> {
      is("of the largest", large().count(7), 12);
      is("none", told("beach 1 1;person at 0 0;").count(7), 0);
      FrontChairs x = told("beach 1 1;person at 0 0;");
      x.rise(0);
      is("one", x.count(7), 1);
      is("of nobody", told("beach 4 5;").count(7), 20);
    });
    sentence(44, "6 MINUTE, 8 DEEDS that can be UNDONE, 9 bytes on the tape", () -> {
      FrontChairs x = rich();
      is("minute", x.count(6), 8);
      is("deeds", x.count(8), 3);
      is("bytes", x.count(9), 20);
      is("ten at most", tenDeeds().count(8), 10);
    });
  }

  private static void firstTold() {
    sentence(0, "Of several throws of a call that one comes that is told first", () -> {
      refused("person(9, 9)", KeepBoundaries::rich, NO_SUCH, x -> x.person(9, 9));
      refused("moves(9, 9, 9)", KeepBoundaries::rich, NO_SUCH, x -> x.moves(9, 9, 9) ? 1 : 0);
      refused("wets(9, 9, -9)", KeepBoundaries::rich, NO_SUCH, x -> x.wets(9, 9, -9));
      refused("judge(9, 9)", KeepBoundaries::rich, NO_SUCH, x -> x.judge(9, 9));
      refused("judge(2, 9)", KeepBoundaries::rich, STATE, x -> x.judge(2, 9));
      refused("sits(9, 999)", KeepBoundaries::rich, NO_SUCH, x -> x.sits(9, 999));
      refused("bring(9, 9, 9)", KeepBoundaries::rich, NO_SUCH, x -> x.bring(9, 9, 9));
      refused("faints(9, 99, 9)", KeepBoundaries::rich, NO_SUCH, x -> x.faints(9, 99, 9));
      refused("hands(9, 9)", KeepBoundaries::rich, NO_SUCH, x -> x.hands(9, 9));
      refused("hands(0, 0), up", KeepBoundaries::rich, ARGUMENT, x -> x.hands(0, 0));
      refused("hands(0, 9), up", KeepBoundaries::rich, NO_SUCH, x -> x.hands(0, 9));
      refused("cut(9, 9)", KeepBoundaries::rich, NO_SUCH, x -> x.cut(9, 9));
      refused("cut(4, 4), up", KeepBoundaries::rich, ARGUMENT, x -> x.cut(4, 4));
      refused("dry(9, 99, 9)", KeepBoundaries::rich, NO_SUCH, x -> x.dry(9, 99, 9));
      refused("where(9, 99)", KeepBoundaries::rich, NO_SUCH, x -> x.where(9, 99));
      refused("where(1, 99), it sits", KeepBoundaries::rich, ARGUMENT, x -> x.where(1, 99));
      refused("tray(9, 9, 99)", KeepBoundaries::rich, NO_SUCH, x -> { x.tray(9, 9, 99); return 0; });
      refused("write(9, 99, 0)", KeepBoundaries::rich, NO_SUCH, x -> x.write(9, 99, 0));
      refused("write(2, 99, 0)", KeepBoundaries::rich, STATE, x -> x.write(2, 99, 0));
      refused("copy(9, 9)", KeepBoundaries::rich, NO_SUCH, x -> x.copy(9, 9));
      refused("copy(2, 9)", KeepBoundaries::rich, NO_SUCH, x -> x.copy(2, 9));
    });
  }

  private static void anyArguments() {
    sentence(0, "A call throws what the document says, and nothing else, for any arguments", () -> {
      int[] some = {LEAST, LEAST + 1, -1000, -2, -1, 0, 1, 2, 3, 4, 5, 6, 7, 8, 9, 10, 15, 17, 31, 32, 60, 99, 200, 255, 999, 1000, MOST - 1, MOST};
      FrontChairs x = rich();
      for (int a : some) {
        for (int b : some) {
          Ask[] twoOf = {y -> y.chair(a, b), y -> y.person(a, b), y -> y.sit(a, b), y -> y.swap(a, b), y -> y.judge(a, b),
              y -> y.afternoon(a, b), y -> y.sits(a, b), y -> y.hands(a, b), y -> y.cut(a, b), y -> y.where(a, b), y -> y.changed(a, b),
              y -> y.sure(a, b), y -> y.look(a, b), y -> y.copy(a, b), y -> y.wets(a, b, a), y -> y.wets(b, b, a),
              y -> y.moves(a, b, b) ? 1 : 0, y -> y.bring(a, b, a), y -> y.bring(a, b, 10), y -> y.faints(a, b, a), y -> y.dry(a, b, b),
              y -> y.changedAt(a, b, b), y -> y.write(a, b, (long) a << 32 | b), y -> { y.tray(a, b, a); return 0; }};
          for (int i = 0; i < twoOf.length; i++) { known("call " + i + " of " + a + ", " + b, x, twoOf[i]); }
        }
        Ask[] one = {y -> y.fault(a), y -> y.count(a), y -> y.tide(a), y -> y.rise(a), y -> y.minutes(a), y -> y.undo(a), y -> y.perform(a),
            y -> y.wetIn(a), y -> y.wetBy(a), y -> y.frontIn(a), y -> y.front(a), y -> y.king(a), y -> y.round(a), y -> y.relay(a),
            y -> y.driest(a), y -> { y.image(a); return 0; }, y -> { y.restore(a); return 0; }, y -> y.feed(a, a, a, a, a), y -> y.beach(a)};
        for (int i = 0; i < one.length; i++) { known("call " + i + " of " + a, x, one[i]); }
      }
    });
  }

  private static void known(String what, FrontChairs x, Ask ask) {
    String name = thrown(x, ask);
    boolean told = name.equals("nothing") || name.equals("NoSuchElementException") || name.equals("IllegalArgumentException")
        || name.equals("IllegalStateException") || name.equals("IndexOutOfBoundsException");
    holds(what + " threw " + name, told);
  }
}
