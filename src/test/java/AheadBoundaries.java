import java.util.Arrays;

/** Boundary cases of what is to come, whom to have rise, hands, dry and changed: promises 18 to 38. */
public final class AheadBoundaries extends Sentences {
  private static final String FIVE = "beach 1 5;person at 0 4;person at 0 3;person at 0 2;person at 0 1;person at 0 0;";

  public static void main(String[] args) {
    sitsThen();
    wetThen();
    frontThen();
    kings();
    brings();
    bringsByLaw();
    faint();
    rounds();
    stirs();
    handsBetween();
    relays();
    cuts();
    heap();
    dries();
    driestAndWhere();
    changedRefused();
    changedTwos();
    sureAndLook();
    nothingIsDone();
    end();
  }

  /** One that can be seen from 200 minutes on: 0 rises in minute m, and 1 comes to row 0 then. */
  private static FrontChairs rising(int m) {
    return told("beach 1 2;person at 0 0 rises " + m + " for 99;person at 0 1;");
  }

  private static void sitsThen() {
    sentence(18, "IllegalArgumentException: n", () -> {
      refusedEach("sits", AheadBoundaries::rich, ARGUMENT, new int[] {-1, 201, LEAST, MOST}, (x, n) -> x.sits(1, n));
      refused("sits(6, 201)", AheadBoundaries::rich, NO_SUCH, x -> x.sits(6, 201));
    });
    sentence(18, "in n MINUTES (0 to 200)", () -> {
      FrontChairs x = rising(199);
      is("sits(1, 0)", x.sits(1, 0), 1);
      is("sits(1, 199)", x.sits(1, 199), 1);
      is("sits(1, 200)", x.sits(1, 200), 0);
    });
    sentence(18, "10 times the COLUMN, and the ROW; NONE: it is UP", () -> {
      FrontChairs x = large();
      is("the last chair", x.sits(1, 0), 34);
      is("the first chair", x.sits(0, 0), 0);
      is("the front of the last column", x.sits(3, 200), 30);
      x.rise(0);
      is("up now", x.sits(0, 0), NONE);
      is("up for good", x.sits(0, 200), NONE);
      is("up by its plan", rising(0).sits(0, 99), NONE);
      is("back", rising(0).sits(0, 100), 1);
    });
    sentence(18, "To come: MINUTES go by, as by minutes()", () -> {
      for (int n = 1; n < 30; n++) {
        FrontChairs x = rich();
        x.minutes(n);
        for (int p = 0; p < 6; p++) { is("sits(" + p + ", " + n + ")", rich().sits(p, n), x.sits(p, 0)); }
        is("wetBy(" + n + ")", rich().wetBy(n), x.count(5));
        is("front(" + n + ")", rich().front(n), x.front(0));
      }
    });
  }

  private static void wetThen() {
    sentence(19, "In how many MINUTES (0 to 200) it is WET first (0: it is); NONE: not by then", () -> {
      String one = "beach 1 1;person at 0 0;tide:minute-";
      is("in 1", told("beach 1 1;person at 0 0;tide:1;").wetIn(0), 1);
      is("in 200", told(one + "198;").wetIn(0), 200);
      is("in 201: not by then", told(one + "199;").wetIn(0), NONE);
      is("never", told("beach 1 1;person at 0 0;").wetIn(0), NONE);
      is("it is", after("beach 1 1;person at 0 0;tide:1;", 1).wetIn(0), 0);
      FrontChairs x = after("beach 1 1;person at 0 0;tide:1;", 1);
      x.rise(0);
      is("it is, and it is up", x.wetIn(0), 0);
    });
    sentence(19, "it is WET first: not the last row, not who is up", () -> {
      FrontChairs x = told("beach 1 2;person at 0 0;person at 0 1 rises 0 for 9;tide:2;");
      is("0 in 1", x.wetIn(0), 1);
      is("1 when it is back", x.wetIn(1), 10);
      x.rise(1);
      is("1 is up for good", x.wetIn(1), NONE);
    });
    sentence(20, "IllegalArgumentException: n", () -> {
      refusedEach("wetBy", AheadBoundaries::rich, ARGUMENT, new int[] {-1, 201, LEAST, MOST}, (x, n) -> x.wetBy(n));
    });
    sentence(20, "in n MINUTES (0 to 200)", () -> {
      FrontChairs x = told("beach 1 1;person at 0 0;tide:minute-198;");
      is("wetBy(0)", x.wetBy(0), 0);
      is("wetBy(199)", x.wetBy(199), 0);
      is("wetBy(200)", x.wetBy(200), 1);
    });
    sentence(20, "Who is WET, as bits: who is now, too", () -> {
      FrontChairs x = after("beach 1 2;person at 0 0;person at 0 1;tide:1-minute;", 1);
      is("wetBy(0)", x.wetBy(0), 1);
      x.rise(0);
      is("wetBy(200)", x.wetBy(200), 1);
      is("all eight", told("beach 4 2;person at 0 0;person at 0 1;person at 1 0;person at 1 1;person at 2 0;person at 2 1;"
          + "person at 3 0;person at 3 1;tide:2;").wetBy(1), 255);
    });
  }

  private static void frontThen() {
    sentence(21, "In how many MINUTES (0 to 200) it sits in ROW 0 first (0: now); NONE: not by then", () -> {
      is("now", rising(0).frontIn(0), 0);
      is("in 1", rising(0).frontIn(1), 1);
      is("in 200", rising(199).frontIn(1), 200);
      is("in 201: not by then", rising(200).frontIn(1), NONE);
      is("never", told("beach 1 2;person at 0 1;").frontIn(0), NONE);
      FrontChairs x = rising(0);
      x.rise(0);
      is("up for good", x.frontIn(0), NONE);
      FrontChairs y = after("beach 1 1;person at 0 0 rises 0 for 99;", 1);
      is("back in row 0", y.frontIn(0), 99);
    });
    sentence(22, "IllegalArgumentException: n", () -> {
      refusedEach("front", AheadBoundaries::rich, ARGUMENT, new int[] {-1, 201, LEAST, MOST}, (x, n) -> x.front(n));
    });
    sentence(22, "in n MINUTES (0 to 200), as bits", () -> {
      FrontChairs x = rising(199);
      is("front(0)", x.front(0), 1);
      is("front(199)", x.front(199), 1);
      is("front(200)", x.front(200), 2);
      is("nobody", told("beach 1 2;person at 0 1;").front(0), 0);
      is("all columns", large().front(200), 9);
    });
  }

  private static void kings() {
    sentence(23, "IllegalArgumentException: n", () -> {
      refusedEach("king", AheadBoundaries::rich, ARGUMENT, new int[] {-1, 201, LEAST, MOST}, (x, n) -> x.king(n));
    });
    sentence(23, "n MINUTES to come (0 to 200)", () -> {
      is("king(0)", rising(0).king(0), 0);
      String half = "beach 1 2;person at 0 1;person at 0 0 rises 100 for 99;";
      is("king(200): 100 of each, the 101st of the second", told(half).king(200), 1);
      is("king(200) of 101 behind it", told(half.replace("rises 100", "rises 99")).king(200), 0);
    });
    sentence(23, "now and at the end of each", () -> {
      FrontChairs x = told("beach 1 2;person at 0 1;person at 0 0 rises 0 for 99;");
      is("only now", x.king(0), 1);
      is("once each: the first", x.king(1), 0);
      is("twice", x.king(2), 0);
    });
    sentence(23, "the first", () -> {
      is("of two columns", told("beach 2 1;person at 1 0;person at 0 0;").king(200), 0);
      is("of all", told("beach 2 2;person at 0 1;person at 1 0;person at 0 0;").king(9), 1);
    });
    sentence(23, "Who sat in ROW 0 most often: the last of eight", () -> {
      is("large", large().king(200), 0);
      is("the eighth", told("beach 4 2;person at 0 1;person at 1 1;person at 2 1;person at 3 1;person at 0 0 rises 0 for 99;"
          + "person at 1 0 rises 0 for 99;person at 2 0 rises 0 for 99;person at 3 0;moves:1=2;").king(50), 7);
    });
    sentence(23, "NONE: nobody did", () -> {
      is("behind only", told("beach 1 2;person at 0 1;").king(200), NONE);
      FrontChairs x = told("beach 1 1;person at 0 0;");
      x.rise(0);
      is("up", x.king(200), NONE);
    });
  }

  private static void brings() {
    sentence(24, "IllegalArgumentException: no such ROW", () -> {
      refusedEach("bring", AheadBoundaries::rich, ARGUMENT, new int[] {-1, 4, 5, LEAST, MOST}, (x, row) -> x.bring(1, row, 0));
      refused("no such ROW for who is up", AheadBoundaries::rich, ARGUMENT, x -> x.bring(0, 4, 0));
      refused("no such PERSON first", AheadBoundaries::rich, NO_SUCH, x -> x.bring(6, 4, 9));
      is("the last row", large().bring(1, 4, 0), 0);
    });
    sentence(24, "IllegalArgumentException: another what (10 to 17)", () -> {
      refusedEach("bring", AheadBoundaries::rich, ARGUMENT, new int[] {-1, 1, 2, 9, 18, 19, LEAST, MOST}, (x, what) -> x.bring(1, 0, what));
      refusedEach("bring of who is up", AheadBoundaries::rich, ARGUMENT, new int[] {1, 9, 18}, (x, what) -> x.bring(0, 0, what));
      for (int what = 10; what <= 17; what++) { is("bring(0, 0, " + what + ")", told(FIVE).bring(0, 0, what), what < 14 ? what - 9 : NONE); }
    });
    sentence(24, "how many (0: it sits so)", () -> {
      for (int row = 0; row < 5; row++) {
        is("from row 4 to row " + row, told(FIVE).bring(0, row, 0), 4 - row);
        is("from row 2 to row " + row, told(FIVE).bring(2, row, 0), Math.max(0, 2 - row));
        is("from row 0 to row " + row, told(FIVE).bring(4, row, 0), 0);
      }
      is("the k-th of none", told(FIVE).bring(4, 4, 10), NONE);
    });
    sentence(24, "the k-th (NONE: not so many)", () -> {
      FrontChairs x = told(FIVE);
      for (int k = 0; k < 8; k++) { is("to row 2, " + k, x.bring(0, 2, 10 + k), k < 2 ? k + 1 : NONE); }
    });
    sentence(24, "NONE: it can't be (it is UP)", () -> {
      FrontChairs x = told(FIVE);
      x.rise(0);
      for (int what : new int[] {0, 10, 17}) { is("up, " + what, x.bring(0, 4, what), NONE); }
      FrontChairs y = told("beach 1 3;person at 0 2 asleep;person at 0 1;person at 0 0;");
      is("asleep", y.bring(0, 1, 0), NONE);
      is("asleep, the first", y.bring(0, 1, 10), NONE);
      is("asleep, it sits so", y.bring(0, 2, 0), 0);
      FrontChairs z = told("beach 1 3;person at 0 2;");
      is("nobody to rise", z.bring(0, 1, 0), NONE);
      FrontChairs w = told("beach 1 3;person at 0 2;person at 0 0 asleep;");
      is("one asleep doesn't rise", w.bring(0, 0, 0), NONE);
      is("it itself doesn't rise", told("beach 1 3;person at 0 2;").bring(0, 0, 0), NONE);
      is("none of eight", large().bring(6, 0, 0), NONE);
      is("none of eight, who", large().bring(6, 0, 17), NONE);
    });
  }

  private static void bringsByLaw() {
    sentence(24, "the fewest, of like ones the first by PEOPLE, one behind the other", () -> {
      FrontChairs x = told("beach 1 4;person at 0 2;person at 0 1;person at 0 3;person at 0 0;");
      is("one to row 1", x.bring(0, 1, 0), 1);
      is("the first of two", x.bring(0, 1, 10), 1);
      is("one to row 2", x.bring(2, 2, 0), 1);
      is("the first of three", x.bring(2, 2, 10), 0);
      is("two to row 1", x.bring(2, 1, 10) * 10 + x.bring(2, 1, 11), 1);
      FrontChairs y = told("beach 1 3;person at 0 2;person at 0 0;person at 0 1;moves:row=0;");
      is("2 rises first, else 1 frees a chair for it", y.bring(0, 0, 10) * 10 + y.bring(0, 0, 11), 12);
      is("two", y.bring(0, 0, 0), 2);
      FrontChairs z = told("beach 2 2;person at 0 1;person at 0 0;person at 1 0;person at 1 1;");
      is("none of another column", z.bring(3, 0, 10), 2);
    });
    sentence(24, "no MINUTE going by", () -> {
      FrontChairs x = told("beach 1 2;person at 0 1;person at 0 0;moves:minute=1;");
      is("not in minute 0", x.bring(0, 0, 0), NONE);
      x.minutes(1);
      is("in minute 1", x.bring(0, 0, 0), 1);
    });
    sentence(24, "in that ROW or a lesser one", () -> {
      FrontChairs x = told("beach 1 4;person at 0 3;person at 0 0;");
      is("over free chairs", x.bring(0, 2, 0), 1);
      is("to row 0", x.bring(0, 0, 0), 1);
    });
  }

  private static void faint() {
    sentence(25, "IllegalArgumentException: n", () -> {
      refusedEach("faints, n", AheadBoundaries::rich, ARGUMENT, new int[] {-1, 61, LEAST, MOST}, (x, n) -> x.faints(1, n, 0));
      refused("faints(6, 61, 2)", AheadBoundaries::rich, NO_SUCH, x -> x.faints(6, 61, 2));
    });
    sentence(25, "IllegalArgumentException: another what", () -> {
      refusedEach("faints, what", AheadBoundaries::rich, ARGUMENT, new int[] {-1, 2, LEAST, MOST}, (x, what) -> x.faints(1, 0, what));
    });
    sentence(25, "in n MINUTES (0 to 60)", () -> {
      is("in 59", rising(59).faints(1, 59, 0), 1);
      is("in 60, by the plan alone", rising(59).faints(1, 60, 0), 0);
    });
    sentence(25, "what 0: how many, 1: which, as bits", () -> {
      FrontChairs x = told(FIVE);
      for (int p = 0; p < 5; p++) {
        is("faints(" + p + ", 0, 0)", x.faints(p, 0, 0), 4 - p);
        is("faints(" + p + ", 60, 1)", x.faints(p, 60, 1), 31 & -(2 << p));
      }
    });
    sentence(25, "NONE: none do", () -> {
      FrontChairs x = told("beach 1 2;person at 0 1;person at 0 0 asleep;");
      is("one asleep in front", x.faints(0, 60, 0), NONE);
      is("the first asleep in front", told("beach 1 2;person at 0 0 asleep;person at 0 1;").faints(1, 60, 0), NONE);
      is("which", x.faints(0, 60, 1), NONE);
      is("free chairs in front", told("beach 1 2;person at 0 1;").faints(0, 60, 0), NONE);
      is("none of eight", large().faints(6, 60, 0), NONE);
      is("one of eight", large().faints(1, 60, 1), 8);
      FrontChairs y = told(FIVE);
      y.rise(4);
      is("up", y.faints(4, 60, 1), NONE);
      is("it itself doesn't rise", told("beach 1 1;person at 0 0 rises 0 for 9;").faints(0, 1, 0), NONE);
    });
    sentence(25, "others RISE now, so that in n MINUTES one sits in ROW 0", () -> {
      FrontChairs x = told("beach 1 1;person at 0 0 rises 0 for 9;");
      is("none: it sits there now", x.faints(0, 0, 0), 0);
      is("none: it is back then", x.faints(0, 10, 0), 0);
      is("it is up then", x.faints(0, 9, 0), NONE);
      FrontChairs y = told("beach 1 2;person at 0 1;person at 0 0 rises 0 for 3;");
      is("now", y.faints(0, 0, 1), 2);
      is("by its plan", y.faints(0, 1, 1), 0);
    });
    sentence(25, "the fewest, of like ones the least set as bits", () -> {
      FrontChairs x = told("beach 1 3;person at 0 1 rises 0 for 1;person at 0 2;person at 0 0 rises 0 for 1;moves:minute=0 and row=0;");
      is("who", x.faints(1, 1, 1), 0);
      FrontChairs y = told("beach 1 3;person at 0 0;person at 0 1;person at 0 2;moves:[who=2 and row=0]or[who=2 and row=1];");
      is("one, not two", y.faints(2, 0, 1), 1);
      FrontChairs z = told("beach 1 4;person at 0 1 rises 1 for 50;person at 0 2 rises 1 for 50;person at 0 3;person at 0 0;moves:row=0;");
      is("in 60", z.faints(2, 60, 1), leastByHand(z, 2, 60));
    });
    sentence(25, "by numbers", () -> {
      for (int seed = 1; seed < 60; seed++) {
        FrontChairs x = told("beach 1 5;person at 0 4;person at 0 1 rises 3 for 4;person at 0 3;person at 0 2 rises 2 for 9;"
            + "person at 0 0;moves:not row=who*" + seed % 5 + "-" + seed % 7 + " or minute>" + seed % 4 + ";");
        for (int p = 0; p < 5; p++) { is("faints(" + p + ", " + seed + ", 1)", x.faints(p, seed, 1), leastByHand(x, p, seed)); }
      }
    });
  }

  /** All sets tried by hand, and undone. */
  private static int leastByHand(FrontChairs x, int p, int n) {
    int best = NONE;
    for (int set = 0; set < 1 << x.count(3); set++) {
      boolean can = (set >> p & 1) == 0;
      int risen = 0;
      for (int q = 0; can && q < x.count(3); q++) {
        if ((set >> q & 1) == 1) {
          can = x.rise(q) >= 0;
          risen += can ? 1 : 0;
        }
      }
      int place = x.sits(p, n);
      if (risen > 0) { x.undo(risen); }
      boolean does = can && place >= 0 && place % 10 == 0;
      if (does && (best == NONE || Integer.bitCount(set) < Integer.bitCount(best))) { best = set; }
    }
    return best;
  }

  private static void rounds() {
    String late = "beach 1 2;person at 0 0;person at 0 1;moves:minute=";
    sentence(26, "NoSuchElementException: no such COLUMN", () -> {
      refusedEach("round", AheadBoundaries::rich, NO_SUCH, new int[] {-1, 2, 4, LEAST, MOST}, (x, c) -> x.round(c));
      is("the last", large().round(3), 1);
    });
    sentence(26, "in how many MINUTES (0 to 99); NONE: not by then", () -> {
      is("1", told(late + "0;").round(0), 1);
      is("98", told(late + "97;").round(0), 98);
      is("99", told(late + "98;").round(0), 99);
      is("100: not by then", told(late + "99;").round(0), NONE);
    });
    sentence(26, "0: all do, none sits there", () -> {
      is("none sits there", told("beach 2 5;person at 1 4;").round(0), 0);
      is("all do", told("beach 1 5;person at 0 0;").round(0), 0);
      is("asleep in row 0", told("beach 1 5;person at 0 0 asleep;").round(0), 0);
      FrontChairs x = told("beach 1 1;person at 0 0;");
      x.rise(0);
      is("who is up isn't awaited", x.round(0), 0);
    });
    sentence(26, "RISES, and SITS in it at once", () -> {
      is("five", told(FIVE).round(0), 4);
      is("two with a free chair", told("beach 1 3;person at 0 0;person at 0 1;").round(0), 1);
      is("one alone goes to the back", told("beach 1 2;person at 0 1;").round(0), NONE);
      is("one of one row", told("beach 1 1;person at 0 0;").round(0), 0);
    });
    sentence(26, "who sits nearest to the water of those not ASLEEP", () -> {
      is("asleep in front of both", told("beach 1 3;person at 0 0 asleep;person at 0 1;person at 0 2;").round(0), NONE);
      is("asleep at the back", told("beach 1 3;person at 0 0;person at 0 1;person at 0 2 asleep;").round(0), NONE);
      is("all asleep", told("beach 1 2;person at 0 0 asleep;person at 0 1 asleep;").round(0), NONE);
      is("none of another column", told("beach 2 2;person at 1 0 asleep;person at 0 1 rises 0 for 2;").round(0), NONE);
    });
    sentence(26, "ahead of all it brings", () -> {
      FrontChairs x = told("beach 1 2;person at 0 0 rises 0 for 1;person at 0 1;");
      is("0 to the back, 1 in front, then 0 rises by its plan", x.round(0), 1);
      FrontChairs y = told("beach 1 2;person at 0 0;person at 0 1 rises 0 for 5;");
      is("0 goes to the back, so that 1 comes back to row 0", y.round(0), 6);
    });
    sentence(26, "as it is now and at the end of each MINUTE", () -> {
      FrontChairs x = told("beach 1 2;person at 0 0;person at 0 1 rises 0 for 99;");
      is("1 was in front only amid a minute", x.round(0), NONE);
    });
  }

  private static void stirs() {
    sentence(27, "by whose RISING now most others come forward, the first", () -> {
      is("the most", told(FIVE).stir(), 4);
      is("person 0", told("beach 1 2;person at 0 0;person at 0 1;").stir(), 0);
      is("now: not in a minute", told("beach 1 3;person at 0 0 rises 0 for 9;person at 0 1;person at 0 2;").stir(), 0);
      is("the eighth", told("beach 4 2;person at 0 0 asleep;person at 1 0;person at 2 0;person at 0 1;person at 3 1;person at 1 1 asleep;"
          + "person at 2 1 asleep;person at 3 0;").stir(), 7);
      is("the first of like ones", told("beach 2 2;person at 1 1;person at 1 0;person at 0 0;person at 0 1;").stir(), 1);
    });
    sentence(27, "NONE: none RISES so that one does", () -> {
      is("nobody behind", told("beach 2 2;person at 0 0;person at 1 1;").stir(), NONE);
      is("asleep in front", told("beach 1 2;person at 0 0 asleep;person at 0 1;").stir(), NONE);
      is("asleep behind", told("beach 1 2;person at 0 0;person at 0 1 asleep;").stir(), NONE);
      is("no law", told("beach 1 2;person at 0 0;person at 0 1;moves:1=2;").stir(), NONE);
      FrontChairs x = told("beach 1 2;person at 0 0;person at 0 1;");
      x.rise(1);
      is("the other is up", x.stir(), NONE);
      x.rise(0);
      is("all are up", x.stir(), NONE);
    });
  }

  private static final String SNAKE = "beach 4 5;person at 0 0;person at 0 1;person at 0 2;person at 1 2;person at 2 2;"
      + "person at 2 1;person at 2 0;person at 3 0;";

  private static void handsBetween() {
    sentence(28, "IllegalArgumentException: both one", () -> {
      for (int p = 0; p < 6; p++) {
        int who = p;
        refused("hands(" + p + ", " + p + ")", AheadBoundaries::rich, ARGUMENT, x -> x.hands(who, who));
      }
    });
    sentence(28, "IllegalStateException: one is UP", () -> {
      refused("hands(0, 1)", AheadBoundaries::rich, STATE, x -> x.hands(0, 1));
      refused("hands(1, 0)", AheadBoundaries::rich, STATE, x -> x.hands(1, 0));
      refused("hands(0, 4)", AheadBoundaries::rich, STATE, x -> x.hands(0, 4));
    });
    sentence(28, "no such PERSON first", () -> {
      refused("hands(6, 6)", AheadBoundaries::rich, NO_SUCH, x -> x.hands(6, 6));
      refused("hands(0, 6), 0 being up", AheadBoundaries::rich, NO_SUCH, x -> x.hands(0, 6));
      refused("hands(-1, 0), 0 being up", AheadBoundaries::rich, NO_SUCH, x -> x.hands(-1, 0));
    });
    sentence(28, "the fewest between: 0 side by side, 6 at most", () -> {
      FrontChairs x = told(SNAKE);
      int[] want = {0, 0, 1, 2, 3, 4, 5, 6};
      for (int q = 1; q < 8; q++) {
        is("hands(0, " + q + ")", x.hands(0, q), want[q]);
        is("hands(" + q + ", 0)", x.hands(q, 0), want[q]);
      }
    });
    sentence(28, "NONE: it can't go", () -> {
      is("across", told("beach 2 2;person at 0 0;person at 1 1;").hands(0, 1), NONE);
      is("a free chair between", told("beach 1 3;person at 0 0;person at 0 2;").hands(0, 1), NONE);
      is("a column between", told("beach 3 1;person at 0 0;person at 2 0;").hands(0, 1), NONE);
      is("no end of a column is beside the next one's front", told("beach 2 5;person at 0 4;person at 1 0;").hands(0, 1), NONE);
      FrontChairs x = told(SNAKE);
      x.rise(3);
      is("without one", x.hands(0, 7), NONE);
    });
    sentence(28, "side by side (next ROW of one COLUMN, next COLUMN of one ROW); one ASLEEP hands on", () -> {
      is("rows", told("beach 1 2;person at 0 0;person at 0 1;").hands(0, 1), 0);
      is("columns", told("beach 2 1;person at 0 0;person at 1 0;").hands(0, 1), 0);
      is("asleep", told("beach 3 1;person at 0 0;person at 1 0 asleep;person at 2 0;").hands(0, 2), 1);
      is("the shorter way", told("beach 2 2;person at 0 0;person at 0 1;person at 1 1;person at 1 0;").hands(0, 2), 1);
    });
  }

  private static void relays() {
    sentence(29, "IllegalStateException: it is UP", () -> {
      refused("relay(0)", AheadBoundaries::rich, STATE, x -> x.relay(0));
      refused("relay(4), up by its plan", AheadBoundaries::rich, STATE, x -> x.relay(4));
      refused("relay(6)", AheadBoundaries::rich, NO_SUCH, x -> x.relay(6));
    });
    sentence(29, "0: side by side, it sits there itself", () -> {
      FrontChairs x = told(FIVE);
      int[] want = {0, 0, 1, 2, 3};
      for (int p = 0; p < 5; p++) { is("relay(" + p + ")", x.relay(p), want[p]); }
      is("one row is the last", told("beach 1 1;person at 0 0;").relay(0), 0);
    });
    sentence(29, "from any who sits in the last ROW", () -> {
      FrontChairs x = told("beach 3 3;person at 0 2;person at 2 2;person at 2 1;person at 1 1;person at 1 0;");
      is("the nearer one", x.relay(4), 2);
      is("beside", x.relay(2), 0);
      is("beside one beside", x.relay(3), 1);
    });
    sentence(29, "NONE: it can't", () -> {
      is("nobody in the last row", told("beach 1 3;person at 0 0;person at 0 1;").relay(0), NONE);
      is("a free chair between", told("beach 1 3;person at 0 0;person at 0 2;").relay(0), NONE);
      is("across", told("beach 2 2;person at 0 0;person at 1 1;").relay(0), NONE);
    });
    sentence(29, "the fewest: 6 at most", () -> {
      FrontChairs x = told("beach 4 3;person at 0 0;person at 0 1;person at 0 2;person at 1 0;person at 2 0;person at 3 0;person at 3 1;");
      is("3 away", x.relay(3), 2);
      is("the far end", x.relay(6), 5);
      FrontChairs y = told("beach 4 5;person at 0 4;person at 0 3;person at 0 2;person at 0 1;person at 0 0;person at 1 0;person at 2 0;person at 3 0;");
      is("eight in a row", y.relay(7), 6);
    });
  }

  private static void cuts() {
    sentence(30, "IllegalArgumentException: both one", () -> {
      for (int p = 0; p < 6; p++) {
        int who = p;
        refused("cut(" + p + ", " + p + ")", AheadBoundaries::rich, ARGUMENT, x -> x.cut(who, who));
      }
    });
    sentence(30, "IllegalStateException: one is UP", () -> {
      refused("cut(6, 6)", AheadBoundaries::rich, NO_SUCH, x -> x.cut(6, 6));
      refused("cut(0, 6)", AheadBoundaries::rich, NO_SUCH, x -> x.cut(0, 6));
      refused("cut(0, 1)", AheadBoundaries::rich, STATE, x -> x.cut(0, 1));
      refused("cut(1, 4)", AheadBoundaries::rich, STATE, x -> x.cut(1, 4));
    });
    sentence(30, "0: there is none anyhow", () -> {
      is("no way", told("beach 3 1;person at 0 0;person at 2 0;").cut(0, 1), 0);
      is("no way, with others", told("beach 4 2;person at 0 0;person at 2 0;person at 0 1;person at 3 1;").cut(0, 1), 0);
    });
    sentence(30, "each of whom would leave no way, nobody coming forward", () -> {
      FrontChairs x = told(SNAKE);
      is("all between", x.cut(0, 7), 126);
      is("the other way round", x.cut(7, 0), 126);
      is("one between", x.cut(0, 2), 2);
      is("person 0 between", told("beach 1 3;person at 0 1;person at 0 0;person at 0 2;").cut(1, 2), 1);
      is("side by side", x.cut(0, 1), 0);
      is("two ways", told("beach 2 2;person at 0 0;person at 0 1;person at 1 1;person at 1 0;").cut(0, 2), 0);
      is("two ways, then one", told("beach 2 3;person at 0 0;person at 0 1;person at 1 1;person at 1 0;person at 1 2;").cut(0, 4), 4);
      is("asleep, too", told("beach 1 3;person at 0 0;person at 0 1 asleep;person at 0 2;").cut(0, 2), 2);
      is("one behind it would come forward", told("beach 1 4;person at 0 0;person at 0 1;person at 0 2;person at 0 3;").cut(0, 2), 2);
    });
  }

  private static void heap() {
    sentence(31, "How many heaps there are of who sits side by side", () -> {
      is("none", told("beach 1 1;").heaps(), 0);
      is("one alone", told("beach 1 1;person at 0 0;").heaps(), 1);
      is("all eight in one", told(SNAKE).heaps(), 1);
      is("eight of one", told("beach 4 5;person at 0 0;person at 2 0;person at 1 1;person at 3 1;person at 0 2;person at 2 2;person at 1 3;person at 3 3;").heaps(), 8);
      FrontChairs x = told(SNAKE);
      x.rise(3);
      is("two", x.heaps(), 2);
      for (int p = 0; p < 8; p++) { x.rise(p); }
      is("all are up", x.heaps(), 0);
    });
  }

  private static void dries() {
    sentence(32, "IllegalArgumentException: n", () -> {
      refusedEach("dry, n", AheadBoundaries::rich, ARGUMENT, new int[] {-1, 16, LEAST, MOST}, (x, n) -> x.dry(1, n, 0));
      refused("dry(6, 16, 2)", AheadBoundaries::rich, NO_SUCH, x -> x.dry(6, 16, 2));
    });
    sentence(32, "IllegalArgumentException: another what", () -> {
      refusedEach("dry, what", AheadBoundaries::rich, ARGUMENT, new int[] {-1, 2, LEAST, MOST}, (x, what) -> x.dry(1, 0, what));
    });
    sentence(32, "in n MINUTES (0 to 15)", () -> {
      FrontChairs x = told("beach 1 1;person at 0 0;wets:1;");
      long above = 1;
      long below = 1;
      for (int n = 0; n <= 15; n++) {
        is("above " + n, x.dry(0, n, 0), above);
        is("below " + n, x.dry(0, n, 1), below);
        above *= 9;
        below *= 10;
      }
    });
    sentence(32, "in lowest terms", () -> {
      int[][] terms = {{1, 1}, {9, 10}, {4, 5}, {7, 10}, {3, 5}, {1, 2}, {2, 5}, {3, 10}, {1, 5}, {1, 10}, {0, 1}, {0, 1}};
      for (int wets = 0; wets < terms.length; wets++) {
        FrontChairs x = told("beach 1 1;person at 0 0;wets:" + wets + ";");
        is("above, wets " + wets, x.dry(0, 1, 0), terms[wets][0]);
        is("below, wets " + wets, x.dry(0, 1, 1), terms[wets][1]);
      }
      FrontChairs y = told("beach 1 1;person at 0 0;wets:5;");
      is("2 to the 15", y.dry(0, 15, 1), 32768);
      FrontChairs z = told("beach 1 1;person at 0 0;wets:10;");
      is("0 of 15", z.dry(0, 15, 0), 0);
      is("0 of 15, below", z.dry(0, 15, 1), 1);
      is("0 minutes", z.dry(0, 0, 0), 1);
      is("0 minutes, below", z.dry(0, 0, 1), 1);
      FrontChairs w = told("beach 1 1;person at 0 0;wets:minute*9-4;");
      is("1, 1/2, 0: above", w.dry(0, 3, 0), 0);
      is("1, 1/2: below", w.dry(0, 2, 1), 2);
    });
    sentence(32, "as the law wets tells, 0 at least, 10 at most (without one: 5 in ROW 0, else 0)", () -> {
      FrontChairs x = told("beach 1 1;person at 0 0;wets:0-9;");
      is("below 0", x.dry(0, 15, 0), 1);
      FrontChairs y = told("beach 1 1;person at 0 0;wets:999;");
      is("above 10", y.dry(0, 1, 0), 0);
      FrontChairs z = told("beach 1 2;person at 0 0;person at 0 1;");
      is("row 0", z.dry(0, 2, 1), 4);
      is("row 1", z.dry(1, 15, 1), 1);
    });
    sentence(32, "column, row: where one sits at its end, minute: MINUTE as it begins; who is UP isn't wetted", () -> {
      FrontChairs x = told("beach 2 2;person at 1 0 rises 0 for 2;person at 1 1;wets:column*4+row*2-minute;");
      is("0: up, up, then in row 1 with 4 of 10: above", x.dry(0, 3, 0), 3);
      is("0: below", x.dry(0, 3, 1), 5);
      is("1: in row 0 with 4 of 10, 3 of 10: above", x.dry(1, 2, 0), 21);
      is("1: below", x.dry(1, 2, 1), 50);
      x.rise(0);
      is("up for good", x.dry(0, 15, 0), 1);
      is("up for good, below", x.dry(0, 15, 1), 1);
    });
  }

  private static FrontChairs upOfThree() {
    FrontChairs x = told("beach 3 2;person at 0 0;person at 0 1;person at 1 1;person at 2 1;wets:9-column*2-row-minute;");
    x.rise(0);
    return x;
  }

  private static void driestAndWhere() {
    sentence(33, "IllegalArgumentException: n", () -> {
      refusedEach("driest", AheadBoundaries::rich, ARGUMENT, new int[] {-1, 16, LEAST, MOST}, (x, n) -> x.driest(n));
      refused("driest(16) of none", FrontChairs::new, ARGUMENT, x -> x.driest(16));
    });
    sentence(33, "NONE: no PEOPLE", () -> {
      is("15 minutes", told("beach 4 5;").driest(15), NONE);
      is("0 minutes", told("beach 4 5;").driest(0), NONE);
    });
    sentence(33, "in n MINUTES (0 to 15), the first", () -> {
      FrontChairs x = told("beach 1 2;person at 0 0;person at 0 1;");
      is("0 minutes: the first", x.driest(0), 0);
      is("1 minute", x.driest(1), 1);
      is("15 minutes", x.driest(15), 1);
      is("all are wetted: the first", told("beach 1 2;person at 0 1;person at 0 0;wets:10;").driest(15), 0);
      FrontChairs y = told("beach 1 2;person at 0 0;person at 0 1;wets:minute-14+row*9;");
      is("like ones, but in the 15th minute", y.driest(14), 0);
      FrontChairs w = told("beach 2 1;person at 0 0;person at 1 0;wets:5-minute*9+column;");
      is("from now on: the first minute", w.driest(1), 0);
      FrontChairs v = told("beach 2 1;person at 0 0;person at 1 0;wets:5-minute*9-column;");
      is("from now on", v.driest(1), 1);
      is("10 to the 15 less one", told("beach 2 1;person at 0 0;person at 1 0;wets:(minute-13)*(1-column);").driest(15), 1);
    });
    sentence(34, "IllegalArgumentException: n", () -> {
      refusedEach("where, n", AheadBoundaries::upOfThree, ARGUMENT, new int[] {-1, 16, LEAST, MOST}, (x, n) -> x.where(0, n));
      refused("where(1, 16), which sits", AheadBoundaries::upOfThree, ARGUMENT, x -> x.where(1, 16));
      refused("where(4, 16)", AheadBoundaries::upOfThree, NO_SUCH, x -> x.where(4, 16));
    });
    sentence(34, "IllegalStateException: it sits", () -> {
      refused("where(1, 15)", AheadBoundaries::upOfThree, STATE, x -> x.where(1, 15));
      refused("where(1, 0)", AheadBoundaries::upOfThree, STATE, x -> x.where(1, 0));
    });
    sentence(34, "to be likeliest DRY in n MINUTES (0 to 15), the first", () -> {
      only("0 minutes", AheadBoundaries::upOfThree, 0, x -> x.where(0, 0));
      only("1 minute", AheadBoundaries::upOfThree, 2, x -> x.where(0, 1));
      only("15 minutes", AheadBoundaries::upOfThree, 2, x -> x.where(0, 15));
      FrontChairs x = told("beach 3 1;person at 0 0;wets:10;");
      x.rise(0);
      is("nowhere: the first", x.where(0, 15), 0);
    });
    sentence(34, "to SIT now", () -> {
      FrontChairs x = told("beach 2 1;person at 0 0;wets:(1-minute)*(5-column);");
      x.rise(0);
      is("minute 0", x.where(0, 1), 1);
      x.minutes(1);
      is("minute 1", x.where(0, 1), 0);
    });
    sentence(34, "would have to SIT: where a CHAIR is FREE", () -> {
      FrontChairs x = told("beach 2 1;person at 0 0;person at 1 0;wets:5-column*5;");
      x.rise(0);
      is("the only free one", x.where(0, 15), 0);
      FrontChairs y = after("beach 2 1;person at 0 0 rises 0 for 9;person at 1 0;", 1);
      y.rise(1);
      y.sit(1, 0);
      is("up by its plan", y.where(0, 15), 1);
      is("nothing is done", y.person(0, 7), 9);
    });
  }

  private static void changedRefused() {
    sentence(35, "IllegalArgumentException: the set has others than PEOPLE", () -> {
      int[] others = {64, 65, 128, 255, -1, LEAST, MOST, 1 << 30};
      refusedEach("changed", AheadBoundaries::rich, ARGUMENT, others, (x, set) -> x.changed(set, 1));
      is("all six", rich().changed(63, 60) >= 0 ? 1 : 0, 1);
      refused("256 of eight", AheadBoundaries::large, ARGUMENT, x -> x.changed(256, 1));
      is("all eight", large().changed(255, 1), 0);
    });
    sentence(35, "n isn't 1 to 60", () -> {
      refusedEach("changed", AheadBoundaries::rich, ARGUMENT, new int[] {0, -1, 61, LEAST, MOST}, (x, n) -> x.changed(0, n));
      String late = "beach 1 2;person at 0 0;person at 0 1;tide:minute-M;";
      FrontChairs x = told(late.replace("M", "58"));
      is("wet in 60", x.changed(2, 60), 1);
      is("not in 59", x.changed(0, 59), 1);
      is("in 1", told("beach 1 2;person at 0 0;person at 0 1;tide:1;").changed(2, 1), 1);
    });
    sentence(36, "IllegalArgumentException: as changed(), k is below 0", () -> {
      refusedEach("changedAt, set", AheadBoundaries::rich, ARGUMENT, new int[] {64, -1, LEAST, MOST}, (x, set) -> x.changedAt(set, 1, 0));
      refusedEach("changedAt, n", AheadBoundaries::rich, ARGUMENT, new int[] {0, -1, 61, LEAST, MOST}, (x, n) -> x.changedAt(0, n, 0));
      refusedEach("changedAt, k", AheadBoundaries::rich, ARGUMENT, new int[] {-1, LEAST}, (x, k) -> x.changedAt(0, 1, k));
    });
    sentence(37, "IllegalArgumentException: as changed()", () -> {
      refusedEach("sure, set", AheadBoundaries::rich, ARGUMENT, new int[] {64, -1, LEAST, MOST}, (x, set) -> x.sure(set, 1));
      refusedEach("sure, n", AheadBoundaries::rich, ARGUMENT, new int[] {0, -1, 61, LEAST, MOST}, (x, n) -> x.sure(0, n));
    });
    sentence(38, "IllegalArgumentException: as changed()", () -> {
      refusedEach("look, set", AheadBoundaries::rich, ARGUMENT, new int[] {64, -1, LEAST, MOST}, (x, set) -> x.look(set, 1));
      refusedEach("look, n", AheadBoundaries::rich, ARGUMENT, new int[] {0, -1, 61, LEAST, MOST}, (x, n) -> x.look(0, n));
    });
  }

  private static final String EIGHT = "beach 4 2;person at 0 0;person at 0 1;person at 1 0;person at 1 1;person at 2 0;"
      + "person at 2 1;person at 3 0;person at 3 1;";

  private static void changedTwos() {
    sentence(35, "how many twos: none, 28 at most", () -> {
      FrontChairs x = told(EIGHT);
      is("all", x.changed(0, 60), 28);
      is("none", x.changed(1, 60), 0);
      is("nobody else", told("beach 1 1;person at 0 0;").changed(0, 60), 0);
      is("just two", told("beach 1 2;person at 0 0;person at 0 1;").changed(0, 60), 1);
    });
    sentence(35, "twos who sit now", () -> {
      FrontChairs x = told(EIGHT);
      for (int p = 0; p < 8; p++) {
        is(p + " are up", x.changed(0, 60), (8 - p) * (7 - p) / 2);
        x.rise(p);
      }
      is("all are up", x.changed(0, 60), 0);
      FrontChairs y = told("beach 1 2;person at 0 0 asleep;person at 0 1 asleep;");
      is("asleep, too", y.changed(0, 1), 1);
    });
    sentence(35, "of all who aren't WET now just those of a told set would be WET", () -> {
      FrontChairs x = after("beach 1 3;person at 0 0;person at 0 1;person at 0 2;tide:1;", 1);
      is("none new: 1 and 2", x.changedAt(0, 1, 0), 12);
      is("1 new", x.changedAt(2, 1, 0), 1);
      is("2 new", x.changedAt(4, 1, 0), 2);
      is("both new", x.changed(6, 1), 0);
      FrontChairs y = told("beach 1 3;person at 0 0;person at 0 1;person at 0 2;tide:2;");
      is("just those: not fewer", y.changed(1, 1), 0);
      is("just those: not more", y.changed(7, 1), 0);
      is("just those", y.changed(3, 1), 1);
    });
    sentence(36, "The k-th of them, by the lesser, then the other; NONE: not so many", () -> {
      FrontChairs x = told(EIGHT);
      int k = 0;
      for (int p = 0; p < 8; p++) {
        for (int q = p + 1; q < 8; q++) {
          is("changedAt(0, 60, " + k + ")", x.changedAt(0, 60, k), 10 * p + q);
          k++;
        }
      }
      is("the 29th", x.changedAt(0, 60, 28), NONE);
      is("far", x.changedAt(0, 60, MOST), NONE);
      is("the first of none", x.changedAt(1, 60, 0), NONE);
    });
  }

  private static void sureAndLook() {
    sentence(37, "PEOPLE who are in all of these twos, as bits (without any: 0)", () -> {
      is("without any", told(EIGHT).sure(1, 60), 0);
      is("all twos", told(EIGHT).sure(0, 60), 0);
      is("one two", told("beach 1 2;person at 0 0;person at 0 1;").sure(0, 60), 3);
      FrontChairs x = told("beach 2 2;person at 0 0;person at 0 1;person at 1 1;tide:1;");
      is("two twos, none in both", x.changed(1, 1) == 1 ? x.sure(1, 1) : -9, 6);
      is("0 and 1", x.sure(2, 1), 3);
      FrontChairs y = told("beach 3 2;person at 0 0;person at 0 1;person at 1 1 asleep;person at 2 0;tide:1-minute;");
      is("three got 1 wet", y.changed(10, 1), 1);
      is("it is sure", y.sure(10, 1), 3);
      FrontChairs z = told("beach 4 2;person at 0 0;person at 1 1;person at 2 1;person at 3 1;tide:1;moves:1=2;");
      is("three twos of none in front", z.changed(1, 1), 3);
      is("none in all", z.sure(1, 1), 0);
      z.rise(3);
      is("one two left", z.sure(1, 1), 6);
      FrontChairs last = told(EIGHT);
      for (int p = 0; p < 6; p++) { last.rise(p); }
      is("6 and 7 alone sit", last.changedAt(0, 1, 0), 67);
      is("6 and 7", last.sure(0, 1), 192);
      FrontChairs most = told("beach 4 2;person at 0 0;person at 0 1;person at 1 0;person at 1 1;person at 2 0;person at 2 1;person at 3 1;"
          + "person at 3 0;tide:1-minute;moves:1=2;");
      is("0, 2, 4 and 6 get wet: 6 and 7 changed", most.sure(85, 1), 192);
    });
    sentence(38, "NONE: there are none", () -> {
      is("none", told(EIGHT).look(1, 60), NONE);
      is("no people", told("beach 1 1;").look(0, 1), NONE);
      is("one", told("beach 1 1;person at 0 0;").look(0, 1), NONE);
    });
    sentence(38, "the greatest number of these twos by which it sits on one and the same CHAIR then is least, the first", () -> {
      is("one two: the first", told("beach 1 2;person at 0 1;person at 0 0;").look(0, 1), 0);
      is("all like: the first", told(EIGHT).look(0, 60), 0);
      FrontChairs x = told("beach 4 2;person at 0 0;person at 1 1;person at 2 1;person at 3 1;tide:1;");
      is("1 and 2, 1 and 3, 2 and 3: each on three chairs", x.look(1, 1), 1);
      FrontChairs y = told("beach 2 3;person at 0 0;person at 0 1;person at 0 2;person at 1 2;");
      is("six twos", y.look(0, 1), lookByHand(y, 0, 1));
    });
    sentence(38, "or is UP", () -> {
      FrontChairs x = told("beach 4 2;person at 0 1 rises 0 for 9;person at 1 1;person at 2 1;person at 3 1;");
      is("0 is up by all", x.look(0, 1), 1);
      is("then it is not", x.look(0, 10), lookByHand(x, 0, 10));
      FrontChairs all = told(EIGHT.replace(";person", " rises 0 for 9;person").replace("beach 4 2 rises 0 for 9", "beach 4 2")
          .replace("person at 3 1;", "person at 3 1 rises 0 for 9;"));
      is("all are up then", all.front(9), 0);
      is("28 twos", all.changed(0, 9), 28);
      is("all are up by all: the first", all.look(0, 9), 0);
    });
    sentence(38, "behind n MINUTES", () -> {
      for (int n = 1; n < 60; n++) {
        FrontChairs x = told("beach 2 3;person at 0 0 rises 3 for 4;person at 0 1;person at 0 2 rises 9 for 2;person at 1 2 rises 1 for 20;"
            + "person at 1 0;moves:not row=who-1;tide:minute-9;");
        for (int set : new int[] {0, 1, 2, 16, 17, 19, 31}) { is("look(" + set + ", " + n + ")", x.look(set, n), lookByHand(x, set, n)); }
      }
    });
  }

  /** All twos swapped by hand, and undone. */
  private static int lookByHand(FrontChairs x, int set, int n) {
    int people = x.count(3);
    int[][] tallies = new int[people][50];
    int twos = 0;
    int wetNow = x.count(5);
    for (int p = 0; p < people; p++) {
      for (int q = p + 1; q < people; q++) {
        if (x.swap(p, q) != 0) { continue; }
        if ((x.wetBy(n) & ~wetNow) == set) {
          twos++;
          for (int who = 0; who < people; who++) { tallies[who][x.sits(who, n) + 1]++; }
        }
        x.undo(1);
      }
    }
    is("changed(" + set + ", " + n + ")", x.changed(set, n), twos);
    int best = NONE;
    int least = 99;
    for (int who = 0; twos > 0 && who < people; who++) {
      int most = Arrays.stream(tallies[who]).max().getAsInt();
      if (most < least) {
        least = most;
        best = who;
      }
    }
    return best;
  }

  private static void nothingIsDone() {
    sentence(0, "To come: nothing else being done, and what is asked does nothing", () -> {
      Ask[] all = {x -> x.sits(1, 200), x -> x.wetIn(1), x -> x.wetBy(200), x -> x.frontIn(1), x -> x.front(200), x -> x.king(200),
          x -> x.bring(1, 0, 0), x -> x.bring(5, 0, 10), x -> x.faints(5, 60, 0), x -> x.faints(1, 60, 1), x -> x.round(0), x -> x.round(1),
          x -> x.stir(), x -> x.hands(2, 5), x -> x.relay(1), x -> x.cut(2, 5), x -> x.heaps(), x -> x.dry(1, 15, 0), x -> x.driest(15),
          x -> x.where(0, 15), x -> x.where(4, 15), x -> x.changed(0, 60), x -> x.changedAt(0, 60, 0), x -> x.sure(0, 60),
          x -> x.look(0, 60), x -> x.judge(0, 2), x -> x.tide(999), x -> x.wets(1, 3, 999), x -> x.moves(3, 1, 0) ? 1 : 0,
          x -> x.chair(1, 1), x -> x.person(4, 7), x -> x.fault(1), x -> x.count(8)};
      for (int i = 0; i < all.length; i++) {
        FrontChairs x = rich();
        long first = all[i].of(x);
        is("asked again, call " + i, all[i].of(x), first);
        same("call " + i + " changes nothing", x, rich());
      }
    });
  }
}
