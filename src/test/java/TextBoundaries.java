/** Boundary cases of the text, its tokens, laws and faults: promises 2 to 4 and the Terms they lean on. */
public final class TextBoundaries extends Sentences {
  /** The text is refused with just this fault, at just this place. */
  private static void fault(String text, int kind, int place) {
    FrontChairs x = new FrontChairs();
    is("beach of " + text, tell(x, text), -10 - kind);
    is("fault(0) of " + text, x.fault(0), kind);
    is("fault(1) of " + text, x.fault(1), place);
  }

  private static void lines(String text, int want) {
    FrontChairs x = new FrontChairs();
    is("beach of " + text, tell(x, text), want);
    is("fault(0) of " + text, x.fault(0), 0);
    is("fault(1) of " + text, x.fault(1), NONE);
  }

  private static int tide(String sum) { return told("beach 1 5;minute 3;tide:" + sum + ";").tide(0); }

  private static boolean moves(String truth) {
    return told("beach 2 3;person at 0 0;person at 1 1 age 9;minute 4;moves:" + truth + ";").moves(1, 1, 2);
  }

  private static final String[] VOCABULARY = {"beach", "person", "at", "moves", "tide", "wets", "minute", "age", "asleep", "rises", "for",
      "not", "and", "or", "who", "column", "row", ";", ":", "+", "-", "*", "(", ")", "[", "]", "=", "<", ">", "7"};

  /** Behind a text just these tokens can stand; the number is out of some bounds, or the text ends too early. */
  private static void onlyThese(String text, String tokens) {
    String spaced = " " + tokens + " ";
    String before = text + " ";
    for (String token : VOCABULARY) {
      FrontChairs x = new FrontChairs();
      tell(x, before + token);
      boolean stands = x.fault(0) == 0 || x.fault(0) == 3 || x.fault(1) > before.length();
      holds(token + " behind " + text + ": fault " + x.fault(0) + " at " + x.fault(1), stands == spaced.contains(" " + token + " "));
      if (!stands) { is("kind of " + token + " behind " + text, x.fault(0), 2); }
    }
  }

  private static String people(int many) {
    StringBuilder s = new StringBuilder();
    for (int p = 0; p < many; p++) { s.append("person at ").append(p % 4).append(' ').append(p / 4).append(';'); }
    return s.toString();
  }

  private static String padded(String text, int length) {
    return text + " ".repeat(length - text.length());
  }

  public static void main(String[] args) {
    feeding();
    reading();
    faultCall();
    sizes();
    strikes();
    tokens();
    faultsOfKindTwo();
    faultsOfKindsThreeAndFour();
    whichFault();
    depths();
    sums();
    truths();
    end();
  }

  private static void feeding() {
    sentence(2, "Twenty bytes come behind those on the tape: how many it has", () -> {
      FrontChairs x = new FrontChairs();
      for (int i = 1; i <= 45; i++) {
        is("feed " + i, x.feed(0x20202020, 0x20202020, 0x20202020, 0x20202020, 0x20202020), 20 * i);
        is("count(9)", x.count(9), 20 * i);
      }
    });
    sentence(2, "the highest of each int first", () -> {
      for (int at = 0; at < 20; at++) {
        for (int sign : new int[] {0, '?', 128, 255}) {
          FrontChairs x = new FrontChairs();
          int[] w = new int[5];
          for (int i = 0; i < 20; i++) { w[i / 4] = w[i / 4] << 8 | (i == at ? sign : 32); }
          x.feed(w[0], w[1], w[2], w[3], w[4]);
          is("beach with sign " + sign, x.beach(20), -11);
          is("place of sign " + sign, x.fault(1), at);
        }
      }
    });
    sentence(2, "NONE, and nothing changes, if there would be more than 900", () -> {
      String text = " ".repeat(890) + "beach 4 5;";
      FrontChairs x = new FrontChairs();
      feed(x, text);
      is("900 bytes", x.count(9), 900);
      is("the 46th feed", x.feed(0, 0, 0, 0, 0), NONE);
      is("the 47th feed", x.feed(-1, -1, -1, -1, -1), NONE);
      is("still 900 bytes", x.count(9), 900);
      is("still the text", x.beach(900), 1);
      is("of four columns", x.count(1), 4);
      is("a feed to the empty tape", x.feed(0, 0, 0, 0, 0), 20);
    });
    sentence(2, "NONE, and nothing changes: nor of the rest", () -> {
      Make full = () -> {
        FrontChairs x = rich();
        for (int i = 1; i < 45; i++) { x.feed(i, i, i, i, i); }
        return x;
      };
      only("feed to the full tape", full, NONE, x -> x.feed(1, 2, 3, 4, 5));
    });
  }

  private static void reading() {
    sentence(3, "IllegalArgumentException: n is below 0 or above what it has", () -> {
      refusedEach("beach", TextBoundaries::rich, ARGUMENT, new int[] {-1, 21, 900, LEAST, MOST},
          (x, n) -> x.beach(n));
      refused("beach(1) of an empty tape", FrontChairs::new, ARGUMENT, x -> x.beach(1));
      refused("beach(-1) of an empty tape", FrontChairs::new, ARGUMENT, x -> x.beach(-1));
    });
    sentence(3, "n is all that it has", () -> {
      FrontChairs x = new FrontChairs();
      feed(x, "beach 2 1;");
      is("beach(20) of 20", x.beach(20), 1);
      is("columns", x.count(1), 2);
    });
    sentence(3, "The first n bytes of the tape: those behind are not read", () -> {
      FrontChairs x = new FrontChairs();
      feed(x, "beach 2 1;????");
      is("beach(10)", x.beach(10), 1);
      feed(x, "beach 3 1;minute 123;");
      is("a number cut off", x.beach(18), -12);
      is("the end's place", x.fault(1), 18);
      feed(x, "beach 3 1;minute 1234;");
      is("the fourth digit is not read", x.beach(20), -12);
      feed(x, "beach 3 1;persons at 0 0;");
      is("a word cut off", x.beach(16), -12);
      is("the end's place", x.fault(1), 16);
    });
    sentence(3, "The first n bytes: n is 0", () -> {
      is("beach(0) of an empty tape", new FrontChairs().beach(0), -12);
      FrontChairs x = new FrontChairs();
      feed(x, "beach 2 1;");
      is("beach(0)", x.beach(0), -12);
      is("its place", x.fault(1), 0);
      is("the tape", x.count(9), 0);
    });
    sentence(3, "which is empty then", () -> {
      FrontChairs x = new FrontChairs();
      feed(x, padded("beach 2 1;", 60));
      is("beach(10) of 60", x.beach(10), 1);
      is("behind a beach", x.count(9), 0);
      feed(x, padded("beach 9 1;", 60));
      is("beach(10) of 60", x.beach(10), -13);
      is("behind a fault", x.count(9), 0);
      refused("nothing is left", () -> {
        FrontChairs y = new FrontChairs();
        feed(y, "beach 9 1;");
        y.beach(10);
        return y;
      }, ARGUMENT, y -> y.beach(1));
    });
    sentence(3, "nobody is WET, no DEEDS", () -> {
      FrontChairs x = told("beach 1 2;person at 0 0;person at 0 1 rises 0 for 9;tide:2;");
      x.minutes(9);
      x.rise(0);
      is("wet before", x.count(5), 1);
      is("told again", tell(x, "beach 1 2;person at 0 0;person at 0 1;"), 3);
      is("wet", x.count(5), 0);
      is("person(0, 4)", x.person(0, 4), 0);
      is("deeds", x.count(8), 0);
      is("up", x.count(4), 0);
      is("minute", x.count(6), 0);
      is("person(1, 5)", x.person(1, 5), NONE);
      is("person(1, 7)", x.person(1, 7), NONE);
      is("tide of no law", x.tide(0), 0);
      is("undo(1)", thrown(x, y -> y.undo(1)).equals("IllegalArgumentException") ? 1 : 0, 1);
    });
    sentence(3, "THE BEACH: nothing of an elder one is left", () -> {
      FrontChairs x = told("beach 4 5;person at 3 4 age 9 asleep rises 1 for 2;moves:1=2;tide:1;wets:1;minute 7;");
      is("told again", tell(x, "beach 4 5;person at 3 3;"), 2);
      same("as on a new object", x, told("beach 4 5;person at 3 3;"));
      FrontChairs y = told("beach 4 5;person at 3 4 age 9 asleep rises 1 for 2;moves:1=2;tide:1;wets:1;minute 7;");
      is("a fault between", tell(y, "beach 4 5;person at 3 3 age 5;minute 6;person at 3 3;"), -13);
      is("told again", tell(y, "beach 4 5;person at 3 3;"), 2);
      same("as on a new object", y, told("beach 4 5;person at 3 3;"));
    });
    sentence(3, "so often as there are calls", () -> {
      FrontChairs x = new FrontChairs();
      String laws = "moves:" + "1=2 or ".repeat(50) + "row=2;tide:" + "0+".repeat(100) + "3;";
      for (int i = 0; i < 12; i++) {
        is("beach " + i, tell(x, "beach 1 5;person at 0 0;" + laws), 4);
        is("tide", x.tide(0), 3);
        is("moves to row 2", x.moves(0, 0, 2) ? 1 : 0, 1);
        is("moves to row 1", x.moves(0, 0, 1) ? 1 : 0, 0);
      }
    });
    sentence(3, "how many LINES (beach, too)", () -> {
      lines("beach 1 1;", 1);
      lines("beach 1 1;minute 1;", 2);
      lines("beach 1 1;" + "minute 1;".repeat(98), 99);
      lines("beach 1 1;" + "tide:1;".repeat(127), 128);
      is("count(0)", told("beach 1 1;" + "minute 1;".repeat(98)).count(0), 99);
    });
    sentence(3, "-10 less the FAULT (all stays)", () -> {
      String[] texts = {"beach 1 1;!", "beach 1 1;1", "beach 1 1;person at 0 1;", "beach 4 5;" + people(8) + "person"};
      for (int kind = 1; kind <= 4; kind++) {
        FrontChairs x = rich();
        x.beach(0);
        is("fault " + kind, tell(x, texts[kind - 1]), -10 - kind);
        holds("all stays with fault " + kind, allButTape(x).equals(allButTape(rich())));
      }
    });
    sentence(3, "-10 less the FAULT (all stays): of the new object, too", () -> {
      FrontChairs x = new FrontChairs();
      tell(x, "beach 3 3;person at 1 1;minute 5;!");
      int[] want = {0, 1, 1, 0, 0, 0, 0, 1, 0, 0};
      for (int i = 0; i < 10; i++) { is("count(" + i + ")", x.count(i), want[i]); }
    });
  }

  private static void faultCall() {
    sentence(4, "what 0: the FAULT (0 without, and at first), 1: its place (NONE without)", () -> {
      FrontChairs x = new FrontChairs();
      is("fault(0) at first", x.fault(0), 0);
      is("fault(1) at first", x.fault(1), NONE);
      tell(x, "!");
      is("fault(0)", x.fault(0), 1);
      is("fault(1) at the first byte", x.fault(1), 0);
      tell(x, "beach 1 1;");
      is("fault(0) without", x.fault(0), 0);
      is("fault(1) without", x.fault(1), NONE);
    });
    sentence(4, "its place: the last that there can be", () -> {
      fault(padded("beach 1 1", 899) + "!", 1, 899);
      fault(padded("beach 1 1", 900), 2, 900);
      fault(padded("beach 1 1;", 894) + "person", 2, 900);
      fault(padded("beach 1 1;", 894) + "parson", 2, 894);
      fault(padded("beach 1 1;minute", 897) + "999", 2, 900);
    });
    sentence(4, "Of the latest beach() that threw nothing", () -> {
      FrontChairs x = new FrontChairs();
      tell(x, "beach 1 1;minute;");
      is("beach(9) throws", thrown(x, y -> y.beach(9)).equals("IllegalArgumentException") ? 1 : 0, 1);
      is("fault(0) behind a throw", x.fault(0), 2);
      is("fault(1) behind a throw", x.fault(1), 16);
      tell(x, "beach 1 9;");
      is("the latest", x.fault(0), 3);
      x.image(0);
      tell(x, "beach 1 1;");
      x.restore(0);
      is("no image brings it back", x.fault(0), 0);
    });
    sentence(4, "NONE for others", () -> {
      FrontChairs x = new FrontChairs();
      for (int i = 0; i < 2; i++) {
        for (int what : new int[] {-1, 2, LEAST, MOST}) { is("fault(" + what + ")", x.fault(what), NONE); }
        tell(x, "beach 5");
      }
    });
  }

  private static void sizes() {
    sentence(3, "a TEXT of at most 900 bytes", () -> {
      String text = "beach 4 5;" + people(8) + "moves:" + "1=1 or ".repeat(108) + "1=1 ;";
      lines(padded(text, 899) + "\n", 10);
      is("its length", text.length() <= 899 ? 1 : 0, 1);
      String deep = "beach 1 5;tide:" + "1+".repeat(441);
      is("just 900 bytes", (deep + "1 ;").length(), 900);
      lines(deep + "1 ;", 2);
      is("its tide", told(deep + "1 ;").tide(0), 5);
    });
    sentence(3, "beach: COLUMNS 1 to 4, ROWS 1 to 5", () -> {
      for (int c = 1; c <= 4; c++) {
        for (int r = 1; r <= 5; r++) {
          FrontChairs x = told("beach " + c + " " + r + ";");
          is("columns", x.count(1), c);
          is("rows", x.count(2), r);
          is("free chairs", x.count(7), c * r);
        }
      }
      fault("beach 0 1;", 3, 6);
      fault("beach 5 1;", 3, 6);
      fault("beach 999 1;", 3, 6);
      fault("beach 1 0;", 3, 8);
      fault("beach 1 6;", 3, 8);
      fault("beach 4 6;", 3, 8);
    });
    sentence(3, "person: COLUMN, ROW of a CHAIR that is free yet", () -> {
      lines("beach 3 4;person at 2 3;person at 0 3;person at 2 0;person at 0 0;", 5);
      fault("beach 3 4;person at 3 0;", 3, 20);
      fault("beach 3 4;person at 2 4;", 3, 22);
      fault("beach 3 5;person at 3 0;", 3, 20);
      fault("beach 1 1;person at 0 0;person at 0 0;", 3, 36);
      fault("beach 3 4;person at 2 3;person at 2 3;", 3, 36);
      lines("beach 3 4;person at 2 3;person at 2 2;", 3);
      lines("beach 3 4;person at 2 3;person at 1 3;", 3);
      fault("beach 1 2;person at 0 1;person at 0 0;person at 0 2;", 3, 50);
    });
    sentence(3, "age 0 to 99 (0)", () -> {
      FrontChairs x = told("beach 3 1;person at 0 0;person at 1 0 age 99;person at 2 0 age 0;");
      is("told nothing", x.person(0, 2), 0);
      is("99", x.person(1, 2), 99);
      is("0", x.person(2, 2), 0);
      fault("beach 3 1;person at 0 0 age 100;", 3, 28);
      fault("beach 3 1;person at 0 0 age 999;", 3, 28);
    });
    sentence(3, "rises: in which MINUTE, 0 to 999, for how many, 1 to 99", () -> {
      FrontChairs x = told("beach 3 1;person at 0 0 rises 0 for 1;person at 1 0 rises 999 for 99;person at 2 0;");
      is("0", x.person(0, 5), 0);
      is("for 1", x.person(0, 6), 1);
      is("999", x.person(1, 5), 999);
      is("for 99", x.person(1, 6), 99);
      is("no plan", x.person(2, 5), NONE);
      is("no plan", x.person(2, 6), NONE);
      fault("beach 3 1;person at 0 0 rises 1000 for 1;", 1, 30);
      fault("beach 3 1;person at 0 0 rises 1 for 0;", 3, 36);
      fault("beach 3 1;person at 0 0 rises 1 for 100;", 3, 36);
    });
    sentence(3, "numbered from 0 on, 8 at most", () -> {
      FrontChairs x = told("beach 4 5;" + people(8));
      is("people", x.count(3), 8);
      for (int p = 0; p < 8; p++) { is("person " + p, x.chair(p % 4, p / 4), p); }
      fault("beach 4 5;" + people(9), 4, 122);
    });
    sentence(3, "minute: the first one, 0 to 999 (0)", () -> {
      is("told nothing", told("beach 1 1;").count(6), 0);
      is("0", told("beach 1 1;minute 0;").count(6), 0);
      is("999", told("beach 1 1;minute 999;").count(6), 999);
      fault("beach 1 1;minute 1000;", 1, 17);
    });
    sentence(3, "1 COLUMN, 1 ROW: the least beach", () -> {
      FrontChairs x = told("beach 1 1;person at 0 0 age 9;");
      is("chair", x.chair(0, 0), 0);
      is("free", x.count(7), 0);
    });
  }

  private static void strikes() {
    sentence(3, "of a word the later one strikes", () -> {
      FrontChairs x = told("beach 1 1;person at 0 0 age 9 rises 1 for 2 asleep rises 3 for 4 age 0 asleep;");
      is("age", x.person(0, 2), 0);
      is("asleep", x.person(0, 3), 1);
      is("rises", x.person(0, 5), 3);
      is("for", x.person(0, 6), 4);
      fault("beach 1 1;person at 0 0 age 100 age 9;", 3, 28);
    });
    sentence(3, "Later ones of moves, tide, wets, minute strike", () -> {
      FrontChairs x = told("beach 1 3;person at 0 0;minute 7;moves:1=2;tide:1;wets:1;moves:1=1;tide:2;wets:2;minute 8;minute 0;");
      is("moves", x.moves(0, 0, 0) ? 1 : 0, 1);
      is("tide", x.tide(0), 2);
      is("wets", x.wets(0, 2, 0), 2);
      is("minute", x.count(6), 0);
      is("lines", x.count(0), 11);
      FrontChairs y = told("beach 1 5;person at 0 0;" + "tide:1;".repeat(60) + "tide:4;" + "wets:3;".repeat(60));
      is("the last of 61 tides", y.tide(0), 4);
      is("the last of 60 wets", y.wets(0, 4, 0), 3);
      FrontChairs z = told("beach 1 5;person at 0 0;" + "moves:1=2;".repeat(80) + "moves:1=1;");
      is("the last of 81 moves", z.moves(0, 0, 4) ? 1 : 0, 1);
    });
    sentence(3, "no LINE has to be told in an order", () -> {
      FrontChairs x = told("beach 1 3;wets:row;tide:minute;moves:age=7;minute 2;person at 0 2 age 7;");
      is("moves", x.moves(0, 0, 0) ? 1 : 0, 1);
      is("tide", x.tide(0), 2);
      is("wets", x.wets(0, 2, 0), 2);
    });
  }

  private static void tokens() {
    sentence(4, "TOKENS, as long as they go", () -> {
      lines("beach1 1;person at0 0age 3asleep rises 1for 2;moves:not 1=1and 1=1or 1=1;tide:(1)*minute;", 4);
      fault("beach 11;", 3, 6);
      fault("beach 1 1;personat 0 0;", 2, 10);
      fault("beach 1 1;moves:notnot 1=1;", 2, 16);
      fault("beach 1 1;moves:1=1andnot 1=2;", 2, 19);
      fault("beach 1 1;tide:minutes;", 2, 15);
      fault("beach 1 1;tide:minut;", 2, 15);
    });
    sentence(4, "between them blanks (10, 32)", () -> {
      lines("\n \n beach\n1\n\n1 ; minute\n3\n;\n \n", 2);
      for (int sign = 0; sign < 256; sign++) {
        boolean blank = sign == 10 || sign == 32;
        if (sign != ';' && !blank) { fault("beach 1 1;" + (char) sign, "+-*()[]=<>:".indexOf(sign) >= 0
            || sign >= 'a' && sign <= 'z' || sign >= '0' && sign <= '9' ? 2 : 1, 10); }
        if (blank) { lines("beach 1 1;" + (char) sign, 1); }
      }
      fault("bea ch 1 1;", 2, 0);
    });
    sentence(4, "N (1 to 3 digits)", () -> {
      is("1 digit", told("beach 1 1;minute 7;").count(6), 7);
      is("2 digits", told("beach 1 1;minute 07;").count(6), 7);
      is("3 digits", told("beach 1 1;minute 007;").count(6), 7);
      fault("beach 1 1;minute 0007;", 1, 17);
      lines("beach 001 005;person at 000 004 age 099 rises 000 for 099;", 2);
    });
    sentence(4, "1 no TOKEN begins so (4 digits and more: at their first)", () -> {
      fault("beach 1000 1;", 1, 6);
      fault("beach 1 1;tide:12345678901234567890;", 1, 15);
      fault("beach 1 1 1000", 1, 10);
      fault("1000", 1, 0);
      fault("beach 1 1;tide:1 0000;", 1, 17);
      fault("Beach 1 1;", 1, 0);
      fault("bEach 1 1;", 2, 0);
      fault("beach 1 1;moves:1!=1;", 1, 17);
      fault("beach 1 1;tide:1/1;", 1, 16);
      fault("beach 1 1;tide:a" + (char) 0 + ";", 2, 15);
    });
  }

  private static void faultsOfKindTwo() {
    sentence(4, "2 it can't stand there (the end: the text's length", () -> {
      String text = "beach 2 2;person at 1 1 age 3 rises 4 for 5 asleep;moves:not[(1)=2 or 1<2*row and 3>who];tide:(1+2);minute 5;";
      lines(text, 5);
      for (int n = 0; n < text.length(); n++) {
        boolean line = n > 0 && text.charAt(n - 1) == ';';
        boolean word = n > 0 && n < text.length() && Character.isLetter(text.charAt(n - 1)) && Character.isLetter(text.charAt(n));
        if (line) {
          lines(text.substring(0, n), text.substring(0, n).split(";").length);
        } else if (!word) {
          fault(text.substring(0, n), 2, n);
          fault(text.substring(0, n) + "  ", 2, n + 2);
        }
      }
    });
    sentence(4, "beach must be told first, and once", () -> {
      for (String line : new String[] {"person at 0 0;", "moves:1=1;", "tide:1;", "wets:1;", "minute 1;", ";", "1", "who", "at"}) {
        fault(line + "beach 1 1;", 2, 0);
        lines("beach 1 1;" + (line.length() > 4 ? line : ""), line.length() > 4 ? 2 : 1);
      }
      fault("beach 1 1;beach 1 1;", 2, 10);
      fault("beach 1 1;minute 1;beach 1 1;", 2, 19);
      fault("beach 1 1 beach 1 1;", 2, 10);
    });
    sentence(4, "a word of another law", () -> {
      for (String word : new String[] {"who", "age", "column", "row"}) {
        lines("beach 1 1;moves:" + word + "=1;", 2);
        fault("beach 1 1;tide:" + word + ";", 2, 15);
        if (word.equals("who") || word.equals("age")) {
          fault("beach 1 1;wets:" + word + ";", 2, 15);
          fault("beach 1 1;wets:1+(" + word + ");", 2, 18);
        } else {
          lines("beach 1 1;wets:" + word + ";", 2);
        }
        fault("beach 1 1;moves:" + word + "=1;tide:" + word + ";", 2, 24 + word.length());
      }
      for (String law : new String[] {"moves:1=", "tide:", "wets:"}) { lines("beach 1 1;" + law + "minute;", 2); }
      for (String word : new String[] {"asleep", "rises", "for", "at", "person", "tide", "moves", "wets", "beach", "not", "and", "or"}) {
        fault("beach 1 1;tide:" + word + ";", 2, 15);
        fault("beach 1 1;moves:1=" + word + ";", 2, 18);
      }
    });
    sentence(4, "person at N N { FLAG }", () -> {
      fault("beach 1 1;person;", 2, 16);
      fault("beach 1 1;person 0 0;", 2, 17);
      fault("beach 1 1;person at;", 2, 19);
      fault("beach 1 1;person at 0;", 2, 21);
      fault("beach 1 1;person at 0 0 0;", 2, 24);
      fault("beach 1 1;person at 0 0 age;", 2, 27);
      fault("beach 1 1;person at 0 0 age asleep;", 2, 28);
      fault("beach 1 1;person at 0 0 asleep 1;", 2, 31);
      fault("beach 1 1;person at 0 0 rises for 1;", 2, 30);
      fault("beach 1 1;person at 0 0 rises 1;", 2, 31);
      fault("beach 1 1;person at 0 0 rises 1 for;", 2, 35);
      fault("beach 1 1;person at 0 0 for 1;", 2, 24);
      fault("beach 1 1;person at 0 0 minute 1;", 2, 24);
      fault("beach 1 1;minute;", 2, 16);
      fault("beach 1 1;minute 1 2;", 2, 19);
      fault("beach 1 1;minute: 1;", 2, 16);
      fault("beach 1 1;;", 2, 10);
      fault("beach;", 2, 5);
      fault("beach 1;", 2, 7);
      fault("beach 1 1 1;", 2, 10);
      fault("beach 1 1:", 2, 9);
    });
    sentence(4, "2 it can't stand there: each TOKEN at each place", () -> {
      String line = "beach 2 2;";
      onlyThese("", "beach");
      onlyThese("beach", "7");
      onlyThese("beach 2", "7");
      onlyThese("beach 2 2", ";");
      onlyThese(line, "person moves tide wets minute");
      onlyThese(line + "person", "at");
      onlyThese(line + "person at", "7");
      onlyThese(line + "person at 1", "7");
      onlyThese(line + "person at 1 1", "age asleep rises ;");
      onlyThese(line + "person at 1 1 age", "7");
      onlyThese(line + "person at 1 1 age 3", "age asleep rises ;");
      onlyThese(line + "person at 1 1 asleep", "age asleep rises ;");
      onlyThese(line + "person at 1 1 rises", "7");
      onlyThese(line + "person at 1 1 rises 3", "for");
      onlyThese(line + "person at 1 1 rises 3 for", "7");
      onlyThese(line + "person at 1 1 rises 3 for 4", "age asleep rises ;");
      onlyThese(line + "minute", "7");
      onlyThese(line + "minute 3", ";");
      onlyThese(line + "moves", ":");
      onlyThese(line + "tide", ":");
      onlyThese(line + "wets", ":");
    });
    sentence(4, "2 it can't stand there: each TOKEN at each place of a law", () -> {
      String line = "beach 2 2;";
      String unit = "not [ ( 7 minute who age column row";
      String atom = "( 7 minute who age column row";
      for (String start : new String[] {"moves:", "moves:not", "moves:[", "moves:1=1 and", "moves:1=1 or", "moves:[1=1]and"}) { onlyThese(line + start, unit); }
      for (String start : new String[] {"moves:1=", "moves:1<", "moves:1>", "moves:(", "moves:1+", "moves:1-", "moves:1*", "moves:1=1*"}) { onlyThese(line + start, atom); }
      for (String start : new String[] {"moves:1", "moves:who", "moves:not age", "moves:(1)", "moves:[1"}) { onlyThese(line + start, "+ - * = < >"); }
      for (String start : new String[] {"moves:1=1", "moves:row<(1)", "moves:not 1=1"}) { onlyThese(line + start, "+ - * and or ;"); }
      onlyThese(line + "moves:[1=1", "+ - * and or ]");
      onlyThese(line + "moves:[1=1]", "and or ;");
      onlyThese(line + "moves:[[1=1]", "and or ]");
      onlyThese(line + "moves:(1", "+ - * )");
      onlyThese(line + "moves:1=(1", "+ - * )");
      for (String start : new String[] {"tide:", "tide:(", "tide:1+", "tide:1-", "tide:1*"}) {
        onlyThese(line + start, "( 7 minute");
        onlyThese(line + start.replace("tide", "wets"), "( 7 minute column row");
      }
      for (String law : new String[] {"tide:", "wets:"}) {
        for (String sum : new String[] {"1", "minute", "(1)", "1+2"}) { onlyThese(line + law + sum, "+ - * ;"); }
        onlyThese(line + law + "(1", "+ - * )");
      }
    });
    sentence(4, "2 it can't stand there: a word that is none", () -> {
      for (String word : VOCABULARY) {
        if (word.length() < 2) { continue; }
        String first = word.charAt(0) == 'x' ? "y" : "x";
        String[] spoilt = {first + word.substring(1), word.substring(0, word.length() - 1) + "x", word + "x", "x" + word, word.substring(1),
            word.substring(0, word.length() - 1)};
        for (String none : spoilt) {
          String text = "beach 2 2;person at 0 0 age 1 asleep rises 1 for 1;moves:not who=age and column=row or 1=1;tide:minute;wets:1;minute 3;";
          int at = text.indexOf(word);
          while (at > 0 && Character.isLetter(text.charAt(at - 1))) { at = text.indexOf(word, at + 1); }
          if (!String.join(" ", VOCABULARY).contains(none)) { fault(text.substring(0, at) + none + text.substring(at + word.length()), 2, at); }
        }
      }
    });
    sentence(4, "TRUTH and SUM: what can't stand in them", () -> {
      String m = "beach 1 1;moves:";
      fault("beach 1 1;moves 1=1;", 2, 16);
      fault(m + ";", 2, 16);
      fault(m + "1;", 2, 17);
      fault(m + "1=;", 2, 18);
      fault(m + "=1;", 2, 16);
      fault(m + "1=1=1;", 2, 19);
      fault(m + "(1=1);", 2, 18);
      fault(m + "[1];", 2, 18);
      fault(m + "[1=1;", 2, 20);
      fault(m + "[1=1);", 2, 20);
      fault(m + "1=1];", 2, 19);
      fault(m + "[]=1;", 2, 17);
      fault(m + "1=[1];", 2, 18);
      fault(m + "[1=1]=1;", 2, 21);
      fault(m + "not;", 2, 19);
      fault(m + "1=1 not 1=1;", 2, 20);
      fault(m + "1=not 1;", 2, 18);
      fault(m + "1=1 or;", 2, 22);
      fault(m + "or 1=1;", 2, 16);
      fault(m + "1=1 and and 1=1;", 2, 24);
      fault(m + "1=1 1=1;", 2, 20);
      String t = "beach 1 1;tide:";
      fault("beach 1 1;tide 1;", 2, 15);
      fault(t + ";", 2, 15);
      fault(t + "1 1;", 2, 17);
      fault(t + "-1;", 2, 15);
      fault(t + "1--1;", 2, 17);
      fault(t + "1+;", 2, 17);
      fault(t + "*1;", 2, 15);
      fault(t + "();", 2, 16);
      fault(t + "(1;", 2, 17);
      fault(t + "1);", 2, 16);
      fault(t + "(1];", 2, 17);
      fault(t + "[1];", 2, 15);
      fault(t + "1=1;", 2, 16);
      fault(t + "1 and 1;", 2, 17);
      fault("beach 1 1;wets:1<1;", 2, 16);
    });
  }

  private static void faultsOfKindsThreeAndFour() {
    sentence(4, "3 N is out of its bounds (the ROW of a CHAIR that isn't free)", () -> {
      String two = "beach 2 2;person at 1 0;";
      fault(two + "person at 1 0 age 100;", 3, 36);
      fault(two + "person at 1 00;", 3, 36);
      fault(two + "person at 1 2;", 3, 36);
      fault(two + "person at 2 0;", 3, 34);
      lines(two + "person at 0 0;", 3);
      lines(two + "person at 1 1;", 3);
    });
    sentence(4, "N is out of its bounds: those of laws have none", () -> {
      lines("beach 1 1;tide:999+0;wets:999;moves:0=999;", 4);
    });
    sentence(4, "4 the first TOKEN of a 9th person", () -> {
      String eight = "beach 4 5;" + people(8);
      fault(eight + "person", 4, 122);
      fault(eight + "\n person ?", 4, 124);
      fault(eight + "person at 0 0;", 4, 122);
      fault(eight + "minute 3;person at 3 4;", 4, 131);
      lines(eight + "minute 3;tide:1;", 11);
    });
    sentence(4, "4 a seventh of not [ (", () -> {
      fault("beach 1 1;moves:" + "not ".repeat(7) + "1=1;", 4, 40);
      fault("beach 1 1;moves:" + "[".repeat(7) + "1=1" + "]".repeat(7) + ";", 4, 22);
      fault("beach 1 1;moves:" + "(".repeat(7) + "1" + ")".repeat(7) + "=1;", 4, 22);
      fault("beach 1 1;moves:1=" + "(".repeat(7) + "1" + ")".repeat(7) + ";", 4, 24);
      fault("beach 1 1;tide:" + "(".repeat(7) + "1" + ")".repeat(7) + ";", 4, 21);
      fault("beach 1 1;wets:1*" + "(".repeat(7) + "1" + ")".repeat(7) + ";", 4, 23);
      fault("beach 1 1;moves:not[not[not[not 1=1]]];", 4, 28);
      fault("beach 1 1;moves:not[not[not[(1)=1]]];", 4, 28);
      fault("beach 1 1;moves:not[not[not[[1=1]]]];", 4, 28);
      fault("beach 1 1;moves:[[[[[1=((1))]]]]];", 4, 24);
    });
  }

  private static void whichFault() {
    sentence(4, "FAULTS, the first along the text", () -> {
      fault("beach 9 9;!", 3, 6);
      fault("beach 1 1;person at 0 9 ? 1000;", 3, 22);
      fault("beach 1 ;person at 0 9;", 2, 8);
      fault("beach 1 1;! beach 5;", 1, 10);
      fault("beach 4 5;" + people(8) + "minute;person", 2, 128);
    });
    sentence(4, "of one TOKEN the least kind", () -> {
      fault("beach 1000 1;", 1, 6);
      fault("beach 1 1;person at 0 9999;", 1, 22);
      fault("beach 1 1 9;", 2, 10);
      fault("beach 1 1;person at 0 0 age 9 100;", 2, 30);
      fault("beach 4 5;" + people(8) + "tide:person", 2, 127);
      fault("beach 1 1;tide:((((((1(2))))));", 2, 22);
      fault("beach 1 1;tide:(((((([1])))))));", 2, 21);
      fault("beach 1 1;tide:((((((not 1)))))));", 2, 21);
      fault("beach 1 1;moves:[[[[[[1=not 1]]]]]];", 2, 24);
      fault("beach 1 1;moves:[[[[[[1=1(1)]]]]]];", 2, 25);
      fault("beach 1 1;moves:[[[[[[1=1[1]]]]]]];", 2, 25);
    });
  }

  private static void depths() {
    sentence(4, "At most six of not [ ( within one another", () -> {
      is("six not", moves("not not not not not not row=2") ? 1 : 0, 1);
      is("five not", moves("not not not not not row=2") ? 1 : 0, 0);
      is("six [", moves("[[[[[[row=2]]]]]]") ? 1 : 0, 1);
      is("six ( at the left", moves("((((((row))))))=2") ? 1 : 0, 1);
      is("six ( at the right", moves("2=((((((row))))))") ? 1 : 0, 1);
      is("six ( of a sum", tide("((((((2))))))"), 2);
      is("six of all", moves("not[not[((row))=2]]") ? 1 : 0, 1);
    });
    sentence(4, "within one another: not beside one another", () -> {
      is("ten ( beside", tide("(1)+(1)-(1)+(1)-(1)*(1)+(1)+(1)-(1)+(1)"), 3);
      is("six ( twice", tide("((((((1))))))+((((((1))))))"), 2);
      is("six not, three times", moves("not not not not not not 1=1 and not not not not not not 1=1 or not not not not not not 1=1") ? 1 : 0, 1);
      is("six [ twice", moves("[[[[[[1=2]]]]]]or[[[[[[1=1]]]]]]") ? 1 : 0, 1);
      is("not is over behind its UNIT", moves("[not 1=2 and [[[[[1=1]]]]]]") ? 1 : 0, 1);
      is("six ( on both sides", moves("((((((1))))))=((((((1))))))") ? 1 : 0, 1);
    });
    sentence(4, "six within one another, with as much waiting as can be", () -> {
      String open = "1=2 or 1=1 and[".repeat(3) + "1=2 or 1=1 and not not 1<1+1*(1+1*1)" + "]".repeat(3);
      is("waiting parts", moves(open) ? 1 : 0, 1);
      is("waiting sums", tide("1+1*(0+1*(0+1*(0+1*(0+1*(0+1*(1+1))))))"), 3);
      is("waiting truths", moves("1=2 or 1=1 and 0<0+1*(0+1*(0+1*(0+1*(0+1*(0+1*(0+1*2))))))") ? 1 : 0, 1);
    });
  }

  private static void sums() {
    sentence(7, "each + - * kept from -1,000,000 to 1,000,000", () -> {
      is("+ to a million", tide("999*999+999+999+1-999*999-999-997"), 3);
      is("+ above a million", tide("999*999+999+999+2-999*999-999-997"), 3);
      is("+ below a million", tide("999*999+999+999+0-999*999-999-997"), 2);
      is("- to minus a million", tide("0-999*999-999-999-1+999*999+999+999+4"), 3);
      is("- below minus a million", tide("0-999*999-999-999-2+999*999+999+999+4"), 3);
      is("- above minus a million", tide("0-999*999-999-999-0+999*999+999+999+4"), 4);
      is("* above", tide("999*999*999-999*999-999-997"), 3);
      is("* to a million", tide("100*100*100-999*999-999-997"), 3);
      is("* below minus a million", tide("(0-999)*999*999+999*999+999+999+4"), 3);
      is("* of both millions", tide("999*999*999*((0-999)*999*999)+999*999+999+999+4"), 3);
      is("* of two minus millions", tide("((0-999)*999*999)*((0-999)*999*999)-999*999-999-997"), 3);
    });
    sentence(7, "each is kept by itself, not the whole", () -> {
      is("up, then down", tide("999*999*999*0+3"), 3);
      is("a term is kept ahead of its sum", tide("999*999*2-999*999-999-997"), 3);
      is("from the left", tide("999*999+999*999-999*999-999-997"), 3);
    });
    sentence(7, "SUM: TERM { + TERM | - TERM }; TERM: ATOM { * ATOM }", () -> {
      is("- from the left", tide("9-4-2"), 3);
      is("- then +", tide("9-7+1"), 3);
      is("* ahead of -", tide("9-2*3"), 3);
      is("( ) ahead of all", tide("9-(4+2)"), 3);
      is("a product from the left", tide("2*2-1*1"), 3);
      is("0 less", tide("0-5"), 0);
    });
  }

  private static void truths() {
    sentence(8, "TRUTH: BOTH { or BOTH }; BOTH: UNIT { and UNIT }", () -> {
      is("or behind and", moves("1=2 and 1=2 or 1=1") ? 1 : 0, 1);
      is("and behind or", moves("1=1 or 1=2 and 1=2") ? 1 : 0, 1);
      is("[ ]", moves("[1=1 or 1=2]and 1=2") ? 1 : 0, 0);
      is("or of none", moves("1=2 or 1=2 or 1=2") ? 1 : 0, 0);
      is("and of all", moves("1=1 and 1=1 and 1=1") ? 1 : 0, 1);
      is("not takes one UNIT", moves("not 1=1 or 1=1") ? 1 : 0, 1);
      is("not of a TRUTH", moves("not[1=1 or 1=1]") ? 1 : 0, 0);
    });
    sentence(8, "SUM, one of = < >, SUM", () -> {
      for (int a = 0; a < 3; a++) {
        is(a + "=1", moves(a + "=1") ? 1 : 0, a == 1 ? 1 : 0);
        is(a + "<1", moves(a + "<1") ? 1 : 0, a < 1 ? 1 : 0);
        is(a + ">1", moves(a + ">1") ? 1 : 0, a > 1 ? 1 : 0);
      }
      for (String sign : new String[] {"1=1", "1<2", "2>1"}) {
        is("not " + sign, moves("not " + sign) ? 1 : 0, 0);
        is("not not " + sign, moves("not not " + sign) ? 1 : 0, 1);
        for (String other : new String[] {"1=1", "1<2", "2>1"}) {
          is(sign + " and " + other, moves(sign + " and " + other) ? 1 : 0, 1);
          is(sign + " and not " + other, moves(sign + " and not " + other) ? 1 : 0, 0);
          is("not " + sign + " or " + other, moves("not " + sign + " or " + other) ? 1 : 0, 1);
        }
      }
      is("below 0", moves("0-1<0") ? 1 : 0, 1);
      is("a million is a million", moves("999*999*999=999*999*998") ? 1 : 0, 1);
    });
    sentence(8, "in moves who, age, column, row; minute in all", () -> {
      is("who", moves("who=1") ? 1 : 0, 1);
      is("age", moves("age=9") ? 1 : 0, 1);
      is("column", moves("column=1") ? 1 : 0, 1);
      is("row", moves("row=2") ? 1 : 0, 1);
      is("minute", moves("minute=4") ? 1 : 0, 1);
      is("in wets column", told("beach 4 5;wets:column*2;").wets(3, 4, 0), 6);
      is("in wets row", told("beach 4 5;wets:row*2;").wets(3, 4, 0), 8);
      is("in wets minute", told("beach 4 5;wets:minute;minute 2;").wets(3, 4, 5), 7);
    });
  }
}
