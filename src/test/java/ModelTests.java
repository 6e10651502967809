import java.math.BigInteger;
import java.util.ArrayList;
import java.util.List;
import java.util.NoSuchElementException;
import java.util.Random;

/** Runs of calls by chance against a plainer program that tries everything; seeds are fixed. */
public final class ModelTests {
  private static final int RUNS = 600;
  private static int wrong = 0;

  // ---- laws as trees, told and reckoned

  private interface Sum { int of(int[] names); void tell(StringBuilder s); }

  private interface Truth { boolean of(int[] names); void tell(StringBuilder s); }

  private static final String[] NAMES = {"minute", "column", "row", "who", "age"};

  private static int kept(long v) { return (int) Math.max(-1000000, Math.min(1000000, v)); }

  private static void blank(StringBuilder s, Random r) { s.append(r.nextInt(3) == 0 ? "\n " : " "); }

  private static Sum atom(Random r, int names, int depth) {
    int k = r.nextInt(depth > 0 ? 4 : 3);
    if (k == 3) {
      Sum inner = sum(r, names, depth - 1);
      return new Sum() {
        public int of(int[] v) { return inner.of(v); }
        public void tell(StringBuilder s) { s.append('('); inner.tell(s); s.append(')'); }
      };
    }
    int n = r.nextInt(20) == 0 ? 999 : r.nextInt(9);
    int name = r.nextInt(names);
    return new Sum() {
      public int of(int[] v) { return k == 0 ? n : v[name]; }
      public void tell(StringBuilder s) {
        blank(s, r);
        s.append(k == 0 ? String.valueOf(n) : NAMES[name]);
      }
    };
  }

  private static Sum sum(Random r, int names, int depth) {
    List<List<Sum>> terms = new ArrayList<>();
    List<Boolean> minus = new ArrayList<>();
    int many = 1 + r.nextInt(3);
    for (int i = 0; i < many; i++) {
      List<Sum> term = new ArrayList<>();
      int factors = r.nextInt(3) == 0 ? 2 + r.nextInt(2) : 1;
      for (int j = 0; j < factors; j++) { term.add(atom(r, names, depth)); }
      terms.add(term);
      minus.add(r.nextBoolean());
    }
    return new Sum() {
      public int of(int[] v) {
        int whole = 0;
        for (int i = 0; i < terms.size(); i++) {
          int product = terms.get(i).get(0).of(v);
          for (int j = 1; j < terms.get(i).size(); j++) { product = kept((long) product * terms.get(i).get(j).of(v)); }
          whole = i == 0 ? product : kept(minus.get(i) ? (long) whole - product : (long) whole + product);
        }
        return whole;
      }
      public void tell(StringBuilder s) {
        for (int i = 0; i < terms.size(); i++) {
          if (i > 0) { s.append(minus.get(i) ? '-' : '+'); }
          for (int j = 0; j < terms.get(i).size(); j++) {
            if (j > 0) { s.append('*'); }
            terms.get(i).get(j).tell(s);
          }
        }
      }
    };
  }

  private static Truth unit(Random r, int depth) {
    int k = r.nextInt(depth > 0 ? 5 : 3);
    if (k >= 3) {
      Truth inner = k == 3 ? unit(r, depth - 1) : truth(r, depth - 1);
      return new Truth() {
        public boolean of(int[] v) { return (k == 3) != inner.of(v); }
        public void tell(StringBuilder s) {
          s.append(k == 3 ? " not " : " [ ");
          inner.tell(s);
          s.append(k == 3 ? " " : " ] ");
        }
      };
    }
    Sum a = sum(r, 5, depth > 0 ? depth - 1 : 0);
    Sum b = sum(r, 5, 0);
    return new Truth() {
      public boolean of(int[] v) {
        int x = a.of(v);
        int y = b.of(v);
        return k == 0 ? x == y : k == 1 ? x < y : x > y;
      }
      public void tell(StringBuilder s) { a.tell(s); s.append("=<>".charAt(k)); b.tell(s); }
    };
  }

  private static Truth truth(Random r, int depth) {
    List<Truth> units = new ArrayList<>();
    List<Boolean> or = new ArrayList<>();
    int many = 1 + r.nextInt(3);
    for (int i = 0; i < many; i++) {
      units.add(unit(r, depth));
      or.add(r.nextBoolean());
    }
    return new Truth() {
      public boolean of(int[] v) {
        boolean any = false;
        boolean all = true;
        for (int i = 0; i < units.size(); i++) {
          if (i > 0 && or.get(i)) {
            any |= all;
            all = true;
          }
          all &= units.get(i).of(v);
        }
        return any | all;
      }
      public void tell(StringBuilder s) {
        for (int i = 0; i < units.size(); i++) {
          if (i > 0) { s.append(or.get(i) ? " or " : " and "); }
          units.get(i).tell(s);
        }
      }
    };
  }

  // ---- the model

  private static final class Told {
    int columns = 1, rows = 1, people = 0, lines = 0;
    int[] age = new int[8], at = new int[8], dur = new int[8];
    boolean[] asleep = new boolean[8];
    Truth moves;
    Sum tide, wets;
  }

  private static final class State implements Cloneable {
    Told b = new Told();
    int[] col = new int[8], row = new int[8], till = new int[8];
    boolean[] wet = new boolean[8];
    int minute = 0;

    State twin() {
      State s = new State();
      s.b = b;
      s.col = col.clone();
      s.row = row.clone();
      s.till = till.clone();
      s.wet = wet.clone();
      s.minute = minute;
      return s;
    }

    int who(int c, int r) {
      for (int p = 0; p < b.people; p++) { if (col[p] == c && row[p] == r) { return p; } }
      return -1;
    }

    boolean lawful(int p, int c, int r) {
      return b.moves == null || b.moves.of(new int[] {minute, c, r, p, b.age[p]});
    }

    int tide(int m) { return b.tide == null ? 0 : Math.max(0, Math.min(b.rows, b.tide.of(new int[] {m, 0, 0, 0, 0}))); }

    int wets(int c, int r, int m) {
      if (b.wets == null) { return r == 0 ? 5 : 0; }
      return Math.max(0, Math.min(10, b.wets.of(new int[] {m, c, r, 0, 0})));
    }

    boolean person(int p) { return p >= 0 && p < b.people; }

    int rise(int p) {
      if (!person(p)) { return -1; }
      if (row[p] < 0) { return -2; }
      if (b.asleep[p]) { return -3; }
      int free = row[p];
      row[p] = -1;
      return fill(col[p], free);
    }

    private int fill(int c, int free) {
      for (int r = free + 1; r < b.rows; r++) {
        int p = who(c, r);
        if (p >= 0 && !b.asleep[p] && lawful(p, c, free)) {
          row[p] = free;
          return 1 + fill(c, r);
        }
      }
      return 0;
    }

    int sit(int p, int c) {
      if (!person(p) || c < 0 || c >= b.columns) { return -1; }
      if (row[p] >= 0) { return -2; }
      for (int r = b.rows - 1; r >= 0; r--) {
        if (who(c, r) < 0) {
          col[p] = c;
          row[p] = r;
          till[p] = -1;
          return r;
        }
      }
      return -3;
    }

    int swap(int p, int q) {
      if (!person(p) || !person(q) || p == q) { return -1; }
      if (row[p] < 0 || row[q] < 0) { return -2; }
      int c = col[p], r = row[p];
      col[p] = col[q];
      row[p] = row[q];
      col[q] = c;
      row[q] = r;
      return 0;
    }

    State minute() {
      for (int p = 0; p < b.people; p++) { if (row[p] < 0 && till[p] >= 0 && minute >= till[p]) { sit(p, col[p]); } }
      for (int p = 0; p < b.people; p++) {
        if (b.at[p] == minute && row[p] >= 0 && !b.asleep[p]) {
          rise(p);
          till[p] = minute + b.dur[p];
        }
      }
      for (int p = 0; p < b.people; p++) { if (row[p] >= 0 && row[p] < tide(minute)) { wet[p] = true; } }
      minute++;
      return this;
    }

    State ahead(int n) {
      State s = twin();
      for (int i = 0; i < n; i++) { s.minute(); }
      return s;
    }

    int told(long v) {
      if (v == -1) { minute(); return 0; }
      if (v >= 0 && v <= 9) { return Math.min(0, rise((int) v)); }
      if (v >= 100 && v <= 199) { return Math.min(0, sit((int) (v - 100) / 10, (int) (v - 100) % 10)); }
      if (v >= 200 && v <= 299) { return swap((int) (v - 200) / 10, (int) (v - 200) % 10); }
      return -1;
    }

    int bits(String what) {
      int bits = 0;
      for (int p = 0; p < b.people; p++) {
        boolean in = what.equals("wet") ? wet[p] : what.equals("up") ? row[p] < 0 : row[p] == 0;
        if (in) { bits |= 1 << p; }
      }
      return bits;
    }

    int place(int p) { return row[p] < 0 ? -1 : 10 * col[p] + row[p]; }

    int[][] ways(int without) {
      int[][] d = new int[8][8];
      for (int p = 0; p < 8; p++) {
        for (int q = 0; q < 8; q++) {
          d[p][q] = 99;
          if (p == q) { d[p][q] = 0; }
          if (p < b.people && q < b.people && row[p] >= 0 && row[q] >= 0 && p != without && q != without
              && Math.abs(col[p] - col[q]) + Math.abs(row[p] - row[q]) == 1) { d[p][q] = 1; }
        }
      }
      for (int k = 0; k < 8; k++) {
        for (int p = 0; p < 8; p++) { for (int q = 0; q < 8; q++) { d[p][q] = Math.min(d[p][q], d[p][k] + d[k][q]); } }
      }
      return d;
    }

    BigInteger[] dry(int p, int n) {
      BigInteger above = BigInteger.ONE, below = BigInteger.ONE;
      State s = twin();
      for (int i = 0; i < n; i++) {
        int begun = s.minute;
        s.minute();
        if (s.row[p] >= 0) {
          above = above.multiply(BigInteger.valueOf(10 - wets(s.col[p], s.row[p], begun)));
          below = below.multiply(BigInteger.TEN);
        }
      }
      BigInteger g = above.gcd(below);
      return new BigInteger[] {above.divide(g), below.divide(g)};
    }

    /** All sequences of so many risings, in the order of people, first that does. */
    int[] bring(int p, int r, int many) {
      if (many == 0) { return row[p] <= r ? new int[0] : null; }
      for (int q = 0; q < b.people; q++) {
        State s = twin();
        if (q != p && s.rise(q) >= 0) {
          int[] rest = s.bring(p, r, many - 1);
          if (rest != null) {
            int[] whole = new int[many];
            whole[0] = q;
            System.arraycopy(rest, 0, whole, 1, many - 1);
            return whole;
          }
        }
      }
      return null;
    }

    int faints(int p, int n) {
      int best = -1;
      for (int set = 0; set < 1 << b.people; set++) {
        if ((set >> p & 1) == 1 || best >= 0 && Integer.bitCount(set) >= Integer.bitCount(best)) { continue; }
        State s = twin();
        boolean can = true;
        for (int q = 0; q < b.people; q++) { if ((set >> q & 1) == 1) { can &= s.rise(q) >= 0; } }
        if (can && s.ahead(n).row[p] == 0) { best = set; }
      }
      return best;
    }

    int round(int c) {
      List<Integer> left = new ArrayList<>();
      for (int p = 0; p < b.people; p++) { if (row[p] >= 0 && col[p] == c) { left.add(p); } }
      State s = twin();
      for (int n = 0; n < 100; n++) {
        left.remove((Integer) s.who(c, 0));
        if (left.isEmpty()) { return n; }
        for (int r = 0; r < b.rows; r++) {
          int p = s.who(c, r);
          if (p >= 0 && s.rise(p) >= 0) {
            s.sit(p, c);
            break;
          }
        }
        s.minute();
      }
      return -1;
    }

    List<int[]> twos(int set, int n, List<State> thens) {
      List<int[]> found = new ArrayList<>();
      for (int p = 0; p < b.people; p++) {
        for (int q = p + 1; q < b.people; q++) {
          State s = twin();
          if (s.swap(p, q) != 0) { continue; }
          s = s.ahead(n);
          boolean just = true;
          for (int x = 0; x < b.people; x++) {
            boolean gotWet = s.wet[x] && !wet[x];
            just &= gotWet == ((set >> x & 1) == 1);
          }
          if (just) {
            found.add(new int[] {p, q});
            thens.add(s);
          }
        }
      }
      return found;
    }

    int look(List<State> thens) {
      int best = -1, least = 99;
      for (int p = 0; p < b.people && !thens.isEmpty(); p++) {
        int[] tally = new int[100];
        int most = 0;
        for (State s : thens) { most = Math.max(most, ++tally[s.place(p) + 1]); }
        if (most < least) {
          least = most;
          best = p;
        }
      }
      return best;
    }
  }

  /** The whole object, as the document tells it. */
  private static final class Model {
    State s = new State();
    List<State> deeds = new ArrayList<>();
    State[] image = new State[3];
    List<List<State>> imageDeeds = new ArrayList<>(List.of(List.of(), List.of(), List.of()));
    long[][] tray = new long[4][];
    int[] sort = new int[4];

    void keep(State before) {
      deeds.add(before);
      if (deeds.size() > 10) { deeds.remove(0); }
    }

    long deed(long told) {
      State before = s.twin();
      long answer = s.told(told);
      if (answer >= 0) { keep(before); }
      return answer;
    }

    void person(int p) { if (!s.person(p)) { throw new NoSuchElementException(); } }

    void within(int n, int from, int to) { if (n < from || n > to) { throw new IllegalArgumentException(); } }

    void trayThere(int t) { if (t < 0 || t > 3) { throw new NoSuchElementException(); } }

    void trayLaid(int t) { if (tray[t] == null) { throw new IllegalStateException(); } }

    void chair(int c, int r) {
      if (c < 0 || c >= s.b.columns || r < 0 || r >= s.b.rows) { throw new NoSuchElementException(); }
    }

    void two(int p, int q) {
      person(p);
      person(q);
      if (p == q) { throw new IllegalArgumentException(); }
      if (s.row[p] < 0 || s.row[q] < 0) { throw new IllegalStateException(); }
    }

    void set(int set, int n) {
      if (set < 0 || set >= 1 << s.b.people || n < 1 || n > 60) { throw new IllegalArgumentException(); }
    }
  }

  // ---- a beach by chance

  private static String beach(Random r, Model m) {
    Told b = new Told();
    State s = new State();
    s.b = b;
    b.columns = 1 + r.nextInt(4);
    b.rows = 1 + r.nextInt(5);
    if (r.nextInt(3) == 0) { b.columns = 1 + r.nextInt(2); b.rows = 4 + r.nextInt(2); }
    StringBuilder text = new StringBuilder("beach " + b.columns + " " + b.rows + ";");
    b.lines = 1;
    int wanted = Math.min(b.columns * b.rows, r.nextInt(4) == 0 ? r.nextInt(9) : 5 + r.nextInt(4));
    java.util.Arrays.fill(s.row, -1);
    java.util.Arrays.fill(s.till, -1);
    java.util.Arrays.fill(b.at, -1);
    java.util.Arrays.fill(b.dur, -1);
    s.minute = r.nextInt(3) == 0 ? 0 : r.nextInt(10);
    for (int p = 0; p < wanted; p++) {
      int c, w;
      do { c = r.nextInt(b.columns); w = r.nextInt(b.rows); } while (s.who(c, w) >= 0);
      b.people++;
      b.lines++;
      s.col[p] = c;
      s.row[p] = w;
      text.append("person at ").append(c).append(' ').append(w);
      if (r.nextBoolean()) { b.age[p] = r.nextInt(12); text.append(" age ").append(b.age[p]); }
      if (r.nextInt(6) == 0) { b.asleep[p] = true; text.append(" asleep"); }
      if (r.nextInt(5) < 2) {
        b.at[p] = s.minute + r.nextInt(12);
        b.dur[p] = 1 + r.nextInt(6);
        text.append(" rises ").append(b.at[p]).append(" for ").append(b.dur[p]);
      }
      text.append(';');
    }
    int at = text.length();
    if (r.nextBoolean()) { b.moves = truth(r, 2); text.append("moves:"); b.moves.tell(text); text.append(';'); b.lines++; }
    if (r.nextInt(4) > 0) { b.tide = sum(r, 1, 2); text.append("tide:"); b.tide.tell(text); text.append(';'); b.lines++; }
    if (r.nextBoolean()) { b.wets = sum(r, 3, 2); text.append("wets:"); b.wets.tell(text); text.append(';'); b.lines++; }
    text.append("minute ").append(s.minute).append(';');
    b.lines++;
    if (text.length() > 900) {
      text.setLength(at);
      text.append("minute ").append(s.minute).append(';');
      b.moves = null;
      b.tide = null;
      b.wets = null;
      b.lines = 2 + b.people;
    }
    m.s = s;
    m.deeds.clear();
    return text.toString();
  }

  // ---- calls

  private interface Call { long run(); }

  private static String answer(Call c) {
    try {
      return String.valueOf(c.run());
    } catch (RuntimeException e) {
      return "throws." + e.getClass().getSimpleName();
    }
  }

  private static void same(StringBuilder log, String call, Call got, Call want) {
    String a = answer(got);
    String b = answer(want);
    log.append(call).append(" -> ").append(b).append('\n');
    if (!a.equals(b)) {
      wrong++;
      if (wrong < 4) { System.out.println(log + "   answered " + a); }
    }
  }

  private static void tell(FrontChairs x, String text) {
    StringBuilder s = new StringBuilder(text);
    while (s.length() % 20 != 0) { s.append('x'); }
    for (int i = 0; i < s.length(); i += 20) {
      int[] w = new int[5];
      for (int j = 0; j < 20; j++) { w[j / 4] = w[j / 4] << 8 | s.charAt(i + j); }
      x.feed(w[0], w[1], w[2], w[3], w[4]);
    }
    x.beach(text.length());
  }

  private static void state(StringBuilder log, FrontChairs x, Model m) {
    State s = m.s;
    int up = s.bits("up");
    int[] want = {s.b.lines, s.b.columns, s.b.rows, s.b.people, up, s.bits("wet"), s.minute,
        s.b.columns * s.b.rows - s.b.people + Integer.bitCount(up), m.deeds.size(), 0};
    for (int i = 0; i < 10; i++) {
      int k = i;
      same(log, "count(" + k + ")", () -> x.count(k), () -> want[k]);
    }
    for (int p = 0; p < s.b.people; p++) {
      int q = p;
      int[] w = {s.col[p], s.row[p], s.b.age[p], s.b.asleep[p] ? 1 : 0, s.wet[p] ? 1 : 0, s.b.at[p], s.b.dur[p], s.till[p]};
      for (int i = 0; i < 8; i++) {
        int k = i;
        same(log, "person(" + p + ", " + i + ")", () -> x.person(q, k), () -> w[k]);
      }
    }
    for (int i = 0; i < s.b.columns; i++) {
      for (int j = 0; j < s.b.rows; j++) {
        int c = i, r = j;
        same(log, "chair(" + c + ", " + r + ")", () -> x.chair(c, r), () -> s.who(c, r));
      }
    }
  }

  private static int some(Random r, int most) {
    int[] outside = {-1, most + 1, Integer.MIN_VALUE, Integer.MAX_VALUE};
    return r.nextInt(15) == 0 ? outside[r.nextInt(4)] : r.nextInt(most + 1);
  }

  private static void deed(Random r, StringBuilder log, FrontChairs x, Model m) {
    int p = some(r, 7), q = some(r, 7), c = some(r, 3), n = r.nextInt(3) == 0 ? some(r, 99) : 1 + r.nextInt(4);
    switch (r.nextInt(9)) {
      case 0: same(log, "rise(" + p + ")", () -> x.rise(p), () -> {
        State before = m.s.twin();
        int a = m.s.rise(p);
        if (a >= 0) { m.keep(before); }
        return a;
      }); break;
      case 1: same(log, "sit(" + p + ", " + c + ")", () -> x.sit(p, c), () -> {
        State before = m.s.twin();
        int a = m.s.sit(p, c);
        if (a >= 0) { m.keep(before); }
        return a;
      }); break;
      case 2: same(log, "swap(" + p + ", " + q + ")", () -> x.swap(p, q), () -> {
        State before = m.s.twin();
        int a = m.s.swap(p, q);
        if (a >= 0) { m.keep(before); }
        return a;
      }); break;
      case 3: same(log, "minutes(" + n + ")", () -> x.minutes(n), () -> {
        m.within(n, 1, 99);
        m.keep(m.s.twin());
        int before = Integer.bitCount(m.s.bits("wet"));
        m.s = m.s.ahead(n);
        return Integer.bitCount(m.s.bits("wet")) - before;
      }); break;
      case 4: {
        int k = r.nextInt(4);
        same(log, "undo(" + k + ")", () -> x.undo(k), () -> {
          if (k < 1 || k > 10 || k > m.deeds.size()) { throw new IllegalArgumentException(); }
          for (int i = 0; i < k; i++) { m.s = m.deeds.remove(m.deeds.size() - 1).twin(); }
          return m.deeds.size();
        });
        break;
      }
      case 5: {
        int seed = r.nextInt();
        int times = some(r, 30);
        same(log, "afternoon(" + seed + ", " + times + ")", () -> x.afternoon(seed, times), () -> {
          m.within(times, 1, 30);
          int[] d = {seed};
          int done = 0;
          for (int i = 0; i < times; i++) {
            int sort = draw(d) % 5;
            long told = -1;
            if (sort == 2) { told = draw(d) % 8; }
            if (sort > 2) { told = 100 * (sort - 2) + draw(d) % 8 * 10; told += draw(d) % (sort == 3 ? 4 : 8); }
            if (m.deed(told) >= 0) { done++; }
          }
          return done;
        });
        break;
      }
      case 6: {
        int i = some(r, 2);
        same(log, "image(" + i + ")", () -> { x.image(i); return 0; }, () -> {
          if (i < 0 || i > 2) { throw new NoSuchElementException(); }
          m.image[i] = m.s.twin();
          m.imageDeeds.set(i, new ArrayList<>(m.deeds));
          return 0;
        });
        break;
      }
      case 7: {
        int i = some(r, 2);
        same(log, "restore(" + i + ")", () -> { x.restore(i); return 0; }, () -> {
          if (i < 0 || i > 2) { throw new NoSuchElementException(); }
          if (m.image[i] == null) { throw new IllegalStateException(); }
          m.s = m.image[i].twin();
          m.deeds = new ArrayList<>();
          for (State s : m.imageDeeds.get(i)) { m.deeds.add(s.twin()); }
          return 0;
        });
        break;
      }
      default: trayCalls(r, log, x, m);
    }
  }

  private static int draw(int[] d) {
    d[0] = 1103515245 * d[0] + 12345;
    return d[0] >>> 16;
  }

  private static long cut(int sort, long v) {
    return sort == 0 ? (byte) v : sort == 1 ? (short) v : sort == 2 ? (int) v : v;
  }

  private static void trayCalls(Random r, StringBuilder log, FrontChairs x, Model m) {
    int t = some(r, 3), sort = some(r, 3), many = some(r, r.nextInt(5) == 0 ? 30 : 8);
    if (r.nextBoolean()) {
      same(log, "tray(" + t + ", " + sort + ", " + many + ")", () -> { x.tray(t, sort, many); return 0; }, () -> {
        m.trayThere(t);
        if (sort < 0 || sort > 3 || many < 0 || many > 30) { throw new IllegalArgumentException(); }
        m.tray[t] = new long[many];
        m.sort[t] = sort;
        return 0;
      });
    }
    for (int i = 0; i < 8; i++) {
      int place = r.nextInt(4) == 0 ? some(r, 29) : i;
      long v = r.nextInt(12) == 0 ? r.nextLong() : new long[] {-1, r.nextInt(10), 100 + r.nextInt(8) * 10 + r.nextInt(4),
          200 + r.nextInt(100), r.nextInt(310) - 5}[r.nextInt(5)];
      same(log, "write(" + t + ", " + place + ", " + v + ")", () -> x.write(t, place, v), () -> {
        m.trayThere(t);
        m.trayLaid(t);
        if (place < 0 || place >= m.tray[t].length) { throw new IndexOutOfBoundsException(); }
        m.tray[t][place] = cut(m.sort[t], v);
        return m.tray[t][place];
      });
    }
    int p = some(r, 7);
    if (r.nextInt(4) == 0) {
      same(log, "copy(" + t + ", " + p + ")", () -> x.copy(t, p), () -> {
        m.trayThere(t);
        m.person(p);
        m.trayLaid(t);
        for (int i = 0; i < m.tray[t].length; i++) { m.tray[t][i] = cut(m.sort[t], m.s.ahead(i).place(p)); }
        return m.tray[t].length;
      });
    }
    for (int i = -1; i < 5; i++) {
      int what = i;
      same(log, "judge(" + t + ", " + what + ")", () -> x.judge(t, what), () -> {
        m.trayThere(t);
        m.trayLaid(t);
        m.within(what, 0, 3);
        State s = m.s.twin();
        int at = 0, why = 0;
        while (at < m.tray[t].length && (why = s.told(m.tray[t][at])) >= 0) { at++; }
        return what == 0 ? (why < 0 ? at : -1) : what == 1 ? -why : what == 2 ? s.bits("front") : s.minute;
      });
    }
    same(log, "perform(" + t + ")", () -> x.perform(t), () -> {
      m.trayThere(t);
      m.trayLaid(t);
      int done = 0;
      while (done < m.tray[t].length && m.deed(m.tray[t][done]) >= 0) { done++; }
      return done;
    });
  }

  private static void ahead(Random r, StringBuilder log, FrontChairs x, Model m) {
    State s = m.s;
    int p = some(r, 7), n = r.nextInt(4) == 0 ? some(r, 200) : r.nextInt(25);
    same(log, "tide(" + n * 5 + ")", () -> x.tide(n * 5), () -> { m.within(n * 5, 0, 999); return s.tide(s.minute + n * 5); });
    int c = some(r, 3), w = some(r, 4);
    same(log, "wets(" + c + ", " + w + ", " + n + ")", () -> x.wets(c, w, n), () -> {
      m.chair(c, w);
      m.within(n, 0, 999);
      return s.wets(c, w, s.minute + n);
    });
    same(log, "moves(" + p + ", " + c + ", " + w + ")", () -> x.moves(p, c, w) ? 1 : 0, () -> {
      m.person(p);
      m.chair(c, w);
      return s.lawful(p, c, w) ? 1 : 0;
    });
    same(log, "sits(" + p + ", " + n + ")", () -> x.sits(p, n), () -> {
      m.person(p);
      m.within(n, 0, 200);
      return s.ahead(n).place(p);
    });
    same(log, "wetBy(" + n + ")", () -> x.wetBy(n), () -> { m.within(n, 0, 200); return s.ahead(n).bits("wet"); });
    same(log, "front(" + n + ")", () -> x.front(n), () -> { m.within(n, 0, 200); return s.ahead(n).bits("front"); });
    same(log, "wetIn(" + p + ")", () -> x.wetIn(p), () -> {
      m.person(p);
      for (int i = 0; i <= 200; i++) { if (s.ahead(i).wet[p]) { return i; } }
      return -1;
    });
    same(log, "frontIn(" + p + ")", () -> x.frontIn(p), () -> {
      m.person(p);
      for (int i = 0; i <= 200; i++) { if (s.ahead(i).row[p] == 0) { return i; } }
      return -1;
    });
    same(log, "king(" + n + ")", () -> x.king(n), () -> {
      m.within(n, 0, 200);
      int best = -1, most = 0;
      for (int q = 0; q < s.b.people; q++) {
        int many = 0;
        for (int i = 0; i <= n; i++) { if (s.ahead(i).row[q] == 0) { many++; } }
        if (many > most) { most = many; best = q; }
      }
      return best;
    });
  }

  private static void whom(Random r, StringBuilder log, FrontChairs x, Model m) {
    State s = m.s;
    int p = some(r, 7), w = some(r, 4), n = some(r, r.nextBoolean() ? 60 : 8), c = some(r, 3);
    for (int what : new int[] {0, 10, 11, 12, 13, 14, 17, 18, 9, 1}) {
      if (what > 10 && r.nextInt(3) > 0) { continue; }
      same(log, "bring(" + p + ", " + w + ", " + what + ")", () -> x.bring(p, w, what), () -> {
        m.person(p);
        if (w < 0 || w >= s.b.rows || what != 0 && (what < 10 || what > 17)) { throw new IllegalArgumentException(); }
        if (s.row[p] < 0) { return -1; }
        for (int many = 0; many < Math.min(5, s.b.people); many++) {
          int[] by = s.bring(p, w, many);
          if (by != null) { return what == 0 ? many : what - 10 < many ? by[what - 10] : -1; }
        }
        return -1;
      });
    }
    for (int i = 0; i < 3; i++) {
      int what = i;
      same(log, "faints(" + p + ", " + n + ", " + what + ")", () -> x.faints(p, n, what), () -> {
        m.person(p);
        m.within(n, 0, 60);
        m.within(what, 0, 1);
        int set = s.faints(p, n);
        return set < 0 || what == 1 ? set : Integer.bitCount(set);
      });
    }
    same(log, "round(" + c + ")", () -> x.round(c), () -> { m.chair(c, 0); return s.round(c); });
    same(log, "stir()", () -> x.stir(), () -> {
      int best = -1, most = 0;
      for (int q = 0; q < s.b.people; q++) {
        int came = s.twin().rise(q);
        if (came > most) { most = came; best = q; }
      }
      return best;
    });
  }

  private static void hands(Random r, StringBuilder log, FrontChairs x, Model m) {
    State s = m.s;
    int p = some(r, 7), q = some(r, 7);
    same(log, "hands(" + p + ", " + q + ")", () -> x.hands(p, q), () -> {
      m.two(p, q);
      int d = s.ways(-1)[p][q];
      return d >= 99 ? -1 : d - 1;
    });
    same(log, "relay(" + p + ")", () -> x.relay(p), () -> {
      m.person(p);
      if (s.row[p] < 0) { throw new IllegalStateException(); }
      int best = 99;
      for (int o = 0; o < s.b.people; o++) {
        if (s.row[o] == s.b.rows - 1) { best = Math.min(best, Math.max(0, s.ways(-1)[p][o] - 1)); }
      }
      return best >= 98 ? -1 : best;
    });
    same(log, "cut(" + p + ", " + q + ")", () -> x.cut(p, q), () -> {
      m.two(p, q);
      int bits = 0;
      for (int o = 0; o < s.b.people && s.ways(-1)[p][q] < 99; o++) {
        if (o != p && o != q && s.ways(o)[p][q] >= 99) { bits |= 1 << o; }
      }
      return bits;
    });
    same(log, "heaps()", () -> x.heaps(), () -> {
      int heaps = 0;
      for (int a = 0; a < s.b.people; a++) {
        boolean first = s.row[a] >= 0;
        for (int b = 0; b < a; b++) { first &= s.ways(-1)[a][b] >= 99; }
        if (first) { heaps++; }
      }
      return heaps;
    });
  }

  private static void dry(Random r, StringBuilder log, FrontChairs x, Model m) {
    State s = m.s;
    int p = some(r, 7), n = some(r, 15);
    for (int i = 0; i < 3; i++) {
      int what = i;
      same(log, "dry(" + p + ", " + n + ", " + what + ")", () -> x.dry(p, n, what), () -> {
        m.person(p);
        m.within(n, 0, 15);
        m.within(what, 0, 1);
        return s.dry(p, n)[what].longValueExact();
      });
    }
    same(log, "driest(" + n + ")", () -> x.driest(n), () -> {
      m.within(n, 0, 15);
      int best = -1;
      for (int q = 0; q < s.b.people; q++) { if (best < 0 || more(s.dry(q, n), s.dry(best, n))) { best = q; } }
      return best;
    });
    same(log, "where(" + p + ", " + n + ")", () -> x.where(p, n), () -> {
      m.person(p);
      m.within(n, 0, 15);
      if (s.row[p] >= 0) { throw new IllegalStateException(); }
      int best = -1;
      BigInteger[] most = null;
      for (int c = 0; c < s.b.columns; c++) {
        State t = s.twin();
        if (t.sit(p, c) >= 0 && (best < 0 || more(t.dry(p, n), most))) { best = c; most = t.dry(p, n); }
      }
      return best;
    });
  }

  private static boolean more(BigInteger[] a, BigInteger[] b) {
    return a[0].multiply(b[1]).compareTo(b[0].multiply(a[1])) > 0;
  }

  private static void changed(Random r, StringBuilder log, FrontChairs x, Model m) {
    State s = m.s;
    int n = some(r, r.nextBoolean() ? 60 : 8);
    int told = some(r, 255) & (r.nextInt(9) == 0 ? -1 : (1 << s.b.people) - 1);
    if (r.nextInt(3) > 0 && s.b.people > 1 && n > 0 && n <= 60) {
      State t = s.twin();
      t.swap(r.nextInt(s.b.people), r.nextInt(s.b.people));
      told = t.ahead(n).bits("wet") & ~s.bits("wet");
    }
    int set = told;
    List<State> thens = new ArrayList<>();
    List<int[]> twos = new ArrayList<>();
    boolean fine = set >= 0 && set < 1 << s.b.people && n >= 1 && n <= 60;
    if (fine) { twos.addAll(s.twos(set, n, thens)); }
    same(log, "changed(" + set + ", " + n + ")", () -> x.changed(set, n), () -> { m.set(set, n); return twos.size(); });
    int k = some(r, 5);
    same(log, "changedAt(" + set + ", " + n + ", " + k + ")", () -> x.changedAt(set, n, k), () -> {
      m.set(set, n);
      if (k < 0) { throw new IllegalArgumentException(); }
      return k < twos.size() ? twos.get(k)[0] * 10 + twos.get(k)[1] : -1;
    });
    same(log, "sure(" + set + ", " + n + ")", () -> x.sure(set, n), () -> {
      m.set(set, n);
      int all = twos.isEmpty() ? 0 : 255;
      for (int[] two : twos) { all &= 1 << two[0] | 1 << two[1]; }
      return all;
    });
    same(log, "look(" + set + ", " + n + ")", () -> x.look(set, n), () -> { m.set(set, n); return s.look(thens); });
  }

  public static void main(String[] args) {
    int runs = args.length > 0 ? Integer.parseInt(args[0]) : RUNS;
    for (int seed = 0; seed < runs && wrong == 0; seed++) {
      Random r = new Random(seed);
      FrontChairs x = new FrontChairs();
      Model m = new Model();
      StringBuilder log = new StringBuilder("run " + seed + "\n");
      for (int step = 0; step < 24; step++) {
        if (step == 0 || r.nextInt(20) == 0) {
          String text = beach(r, m);
          log.append(text).append('\n');
          tell(x, text);
        }
        deed(r, log, x, m);
        state(log, x, m);
        switch (r.nextInt(5)) {
          case 0: ahead(r, log, x, m); break;
          case 1: whom(r, log, x, m); break;
          case 2: hands(r, log, x, m); break;
          case 3: dry(r, log, x, m); break;
          default: changed(r, log, x, m);
        }
        state(log, x, m);
      }
    }
    System.out.println(wrong == 0 ? "all answers are as due" : wrong + " answers are not as due");
    if (wrong != 0) { System.exit(1); }
  }
}
