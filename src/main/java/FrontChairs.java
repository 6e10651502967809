import java.util.Arrays;
import java.util.NoSuchElementException;

/** Deckchairs by law of succession: see README.md for how to tell a beach and what to ask of it. */
public final class FrontChairs {
    /** There is none. */
    public static final int NONE = -1;

    private static final int MOST_COLUMNS = 4;
    private static final int MOST_ROWS = 5;
    private static final int MOST_PEOPLE = 8;
    private static final int MOST_BYTES = 900;
    private static final int FED_BYTES = 20;
    private static final int MOST_DEEDS = 10;
    private static final int MOST_TWOS = 28;
    private static final int MOST_TRAYS = 4;
    private static final int MOST_PLACES = 30;
    private static final int MOST_IMAGES = 3;
    private static final int LONG_AHEAD = 999;
    private static final int AHEAD = 200;
    private static final int FAINT_AHEAD = 60;
    private static final int DRY_AHEAD = 15;
    private static final int ROUND_AHEAD = 99;

    private final int[] tape = new int[MOST_BYTES];
    private int tapeSize = 0;
    private int faultKind = 0;
    private int faultPlace = NONE;
    private final Seats seats;
    private final History history;
    private final Reader reader;
    private final Tray[] trays = new Tray[MOST_TRAYS];
    private final Image[] images = new Image[MOST_IMAGES];
    /** Scratch: a call that looks ahead plays on these, so that none has to make new ones. */
    private final Seats[] trials = new Seats[MOST_ROWS];
    private final int[] risers = new int[MOST_ROWS];
    private final int[] tallies = new int[MOST_PEOPLE];
    private final int[] levels = new int[FAINT_AHEAD];
    private final int[] twos = new int[MOST_TWOS];
    private final int[] ends = new int[MOST_TWOS * MOST_PEOPLE];
    private int drawn = 0;

    public FrontChairs() {
        Beach empty = new Beach();
        seats = new Seats(empty);
        history = new History(empty);
        reader = new Reader(new Seats(empty));
        for (int i = 0; i < MOST_TRAYS; i++) {
            trays[i] = new Tray();
        }
        for (int i = 0; i < MOST_ROWS; i++) {
            trials[i] = new Seats(empty);
        }
    }

    // ---- the beach

    public int feed(int a, int b, int c, int d, int e) {
        if (tapeSize + FED_BYTES > MOST_BYTES) {
            return NONE;
        }
        append(a);
        append(b);
        append(c);
        append(d);
        append(e);
        return tapeSize;
    }

    public int beach(int n) throws IllegalArgumentException {
        needWithin(n, 0, tapeSize);
        reader.open(tape, n);
        for (int i = 0; i < MOST_BYTES && reader.hasMore(); i++) {
            reader.line();
        }
        tapeSize = 0;
        faultKind = reader.fault;
        faultPlace = reader.place;
        if (faultKind != 0) {
            return -10 - faultKind;
        }
        seats.copyFrom(reader.made);
        history.forget();
        return seats.beach.lines;
    }

    public int fault(int what) {
        if (what == 0) {
            return faultKind;
        }
        return what == 1 ? faultPlace : NONE;
    }

    public int chair(int column, int row) throws NoSuchElementException {
        needChair(column, row);
        return seats.whoOn(column, row);
    }

    public int person(int p, int what) throws NoSuchElementException, IllegalArgumentException {
        needPerson(p);
        needWithin(what, 0, 7);
        Beach beach = seats.beach;
        switch (what) {
            case 0: return seats.column[p];
            case 1: return seats.row[p];
            case 2: return beach.age[p];
            case 3: return beach.asleep >> p & 1;
            case 4: return seats.wet >> p & 1;
            case 5: return beach.planAt[p];
            case 6: return beach.planFor[p];
            default: return seats.back[p];
        }
    }

    public int tide(int n) throws IllegalArgumentException {
        needWithin(n, 0, LONG_AHEAD);
        return seats.beach.tideIn(seats.minute + n);
    }

    public boolean moves(int p, int column, int row) throws NoSuchElementException {
        needPerson(p);
        needChair(column, row);
        return seats.beach.lawful(p, column, row, seats.minute);
    }

    public int wets(int column, int row, int n) throws NoSuchElementException, IllegalArgumentException {
        needChair(column, row);
        needWithin(n, 0, LONG_AHEAD);
        return seats.beach.waveOn(column, row, seats.minute + n);
    }

    // ---- deeds

    public int rise(int p) {
        int why = seats.whyNotLeave(p);
        if (why != 0) {
            return -why;
        }
        history.keep(seats);
        return seats.leave(p);
    }

    public int sit(int p, int column) {
        int why = seats.whyNotTake(p, column);
        if (why != 0) {
            return -why;
        }
        history.keep(seats);
        return seats.take(p, column);
    }

    public int swap(int p, int q) {
        int why = seats.whyNotExchange(p, q);
        if (why != 0) {
            return -why;
        }
        history.keep(seats);
        seats.exchange(p, q);
        return 0;
    }

    public int minutes(int n) throws IllegalArgumentException {
        needWithin(n, 1, 99);
        history.keep(seats);
        int before = Integer.bitCount(seats.wet);
        for (int i = 0; i < n; i++) {
            seats.pass(seats.level());
        }
        return Integer.bitCount(seats.wet) - before;
    }

    public int undo(int n) throws IllegalArgumentException {
        needWithin(n, 1, history.size);
        history.goBack(n, seats);
        return history.size;
    }

    public int judge(int tray, int what)
            throws NoSuchElementException, IllegalStateException, IllegalArgumentException {
        needTray(tray);
        needLaid(tray);
        needWithin(what, 0, 3);
        Seats then = trial();
        Tray told = trays[tray];
        int place = 0;
        int why = 0;
        while (place < told.many && why == 0) {
            long deed = told.numbers[place];
            why = then.whyNotTold(deed);
            if (why == 0) {
                then.carryOut(deed);
                place++;
            }
        }
        switch (what) {
            case 0: return why == 0 ? NONE : place;
            case 1: return why;
            case 2: return then.inFront();
            default: return then.minute;
        }
    }

    public int perform(int tray) throws NoSuchElementException, IllegalStateException {
        needTray(tray);
        needLaid(tray);
        Tray told = trays[tray];
        int done = 0;
        while (done < told.many && performed(told.numbers[done])) {
            done++;
        }
        return done;
    }

    public int afternoon(int seed, int times) throws IllegalArgumentException {
        needWithin(times, 1, 30);
        drawn = seed;
        int done = 0;
        for (int i = 0; i < times; i++) {
            if (performed(drawnDeed())) {
                done++;
            }
        }
        return done;
    }

    // ---- to come

    public int sits(int p, int n) throws NoSuchElementException, IllegalArgumentException {
        needPerson(p);
        needWithin(n, 0, AHEAD);
        return ahead(n).place(p);
    }

    public int wetIn(int p) throws NoSuchElementException {
        needPerson(p);
        Seats then = trial();
        for (int n = 0; n <= AHEAD; n++) {
            if ((then.wet >> p & 1) == 1) {
                return n;
            }
            then.pass(then.level());
        }
        return NONE;
    }

    public int wetBy(int n) throws IllegalArgumentException {
        needWithin(n, 0, AHEAD);
        Seats then = trial();
        for (int i = 0; i < n; i++) {
            then.pass(then.level());
        }
        return then.wet;
    }

    public int frontIn(int p) throws NoSuchElementException {
        needPerson(p);
        Seats then = trial();
        for (int n = 0; n <= AHEAD; n++) {
            if (then.row[p] == 0) {
                return n;
            }
            then.pass(0);
        }
        return NONE;
    }

    public int front(int n) throws IllegalArgumentException {
        needWithin(n, 0, AHEAD);
        return ahead(n).inFront();
    }

    public int king(int n) throws IllegalArgumentException {
        needWithin(n, 0, AHEAD);
        Arrays.fill(tallies, 0);
        Seats then = trial();
        int people = then.beach.people;
        for (int i = 0; i <= n; i++) {
            for (int p = 0; p < people; p++) {
                if (then.row[p] == 0) {
                    tallies[p]++;
                }
            }
            then.pass(0);
        }
        int best = NONE;
        int most = 0;
        for (int p = 0; p < people; p++) {
            if (tallies[p] > most) {
                most = tallies[p];
                best = p;
            }
        }
        return best;
    }

    // ---- whom to have rise

    public int bring(int p, int row, int what) throws NoSuchElementException, IllegalArgumentException {
        needPerson(p);
        needWithin(row, 0, seats.beach.rows - 1);
        if (what != 0) {
            needWithin(what, 10, 17);
        }
        int many = fewestRisers(p, row);
        if (what == 0 || many == NONE) {
            return many;
        }
        int k = what - 10;
        return k < many && k < risers.length ? risers[k] : NONE;
    }

    public int faints(int p, int n, int what) throws NoSuchElementException, IllegalArgumentException {
        needPerson(p);
        needWithin(n, 0, FAINT_AHEAD);
        needWithin(what, 0, 1);
        int able = neighboursWhoCanRise(p);
        int fewest = MOST_PEOPLE + 1;
        int best = NONE;
        // Sets come in rising order: of like sizes the first one found is the least.
        for (int set = 0; set < 1 << MOST_PEOPLE; set++) {
            int many = Integer.bitCount(set);
            if ((set & ~able) == 0 && many < fewest && bringsToFront(set, p, n)) {
                fewest = many;
                best = set;
            }
        }
        if (best == NONE) {
            return NONE;
        }
        return what == 0 ? fewest : best;
    }

    public int round(int column) throws NoSuchElementException {
        needChair(column, 0);
        int awaited = seats.sittersIn(column);
        Seats then = trial();
        for (int n = 0; n <= ROUND_AHEAD; n++) {
            int who = then.whoOn(column, 0);
            if (who != NONE) {
                awaited &= ~(1 << who);
            }
            if (awaited == 0) {
                return n;
            }
            who = then.foremostAwake(column);
            if (who != NONE) {
                then.leave(who);
                then.take(who, column);
            }
            then.pass(0);
        }
        return NONE;
    }

    public int stir() {
        int best = NONE;
        int most = 0;
        for (int p = 0; p < seats.beach.people; p++) {
            if (seats.whyNotLeave(p) == 0) {
                int came = trial().leave(p);
                if (came > most) {
                    most = came;
                    best = p;
                }
            }
        }
        return best;
    }

    // ---- hands

    public int hands(int p, int q)
            throws NoSuchElementException, IllegalArgumentException, IllegalStateException {
        needTwoWhoSit(p, q);
        return seats.between(1 << p, q, 0);
    }

    public int relay(int p) throws NoSuchElementException, IllegalStateException {
        needPerson(p);
        if (seats.row[p] == NONE) {
            throw new IllegalStateException("it is up");
        }
        int last = seats.beach.rows - 1;
        if (seats.row[p] == last) {
            return 0;
        }
        return seats.between(seats.sittersOf(last), p, 0);
    }

    public int cut(int p, int q)
            throws NoSuchElementException, IllegalArgumentException, IllegalStateException {
        needTwoWhoSit(p, q);
        if (seats.between(1 << p, q, 0) == NONE) {
            return 0;
        }
        int needed = 0;
        for (int other = 0; other < seats.beach.people; other++) {
            if (other != p && other != q && seats.between(1 << p, q, 1 << other) == NONE) {
                needed |= 1 << other;
            }
        }
        return needed;
    }

    public int heaps() {
        int left = ~seats.whoIsUp() & seats.beach.everybody();
        int heaps = 0;
        for (int p = 0; p < seats.beach.people; p++) {
            if ((left >> p & 1) == 1) {
                left &= ~seats.heapOf(p);
                heaps++;
            }
        }
        return heaps;
    }

    // ---- dry

    public long dry(int p, int n, int what) throws NoSuchElementException, IllegalArgumentException {
        needPerson(p);
        needWithin(n, 0, DRY_AHEAD);
        needWithin(what, 0, 1);
        long above = trial().dryChances(p, n);
        long below = 1;
        for (int i = 0; i < n; i++) {
            below *= 10;
        }
        long common = commonDivisor(above, below);
        if (common == 0) {
            return NONE;
        }
        return what == 0 ? above / common : below / common;
    }

    public int driest(int n) throws IllegalArgumentException {
        needWithin(n, 0, DRY_AHEAD);
        int best = NONE;
        long most = NONE;
        for (int p = 0; p < seats.beach.people; p++) {
            long chances = trial().dryChances(p, n);
            if (chances > most) {
                most = chances;
                best = p;
            }
        }
        return best;
    }

    public int where(int p, int n)
            throws NoSuchElementException, IllegalArgumentException, IllegalStateException {
        needPerson(p);
        needWithin(n, 0, DRY_AHEAD);
        if (seats.row[p] != NONE) {
            throw new IllegalStateException("it sits");
        }
        int best = NONE;
        long most = NONE;
        for (int column = 0; column < seats.beach.columns; column++) {
            Seats then = trial();
            if (then.take(p, column) != NONE) {
                long chances = then.dryChances(p, n);
                if (chances > most) {
                    most = chances;
                    best = column;
                }
            }
        }
        return best;
    }

    // ---- changed

    public int changed(int set, int n) throws IllegalArgumentException {
        needTwosAsked(set, n);
        return collectTwos(set, n);
    }

    public int changedAt(int set, int n, int k) throws IllegalArgumentException {
        needTwosAsked(set, n);
        if (k < 0) {
            throw new IllegalArgumentException("k is below 0");
        }
        return k < collectTwos(set, n) && k < twos.length ? twos[k] : NONE;
    }

    public int sure(int set, int n) throws IllegalArgumentException {
        needTwosAsked(set, n);
        int found = collectTwos(set, n);
        int inAll = found == 0 ? 0 : seats.beach.everybody();
        for (int i = 0; i < found && i < twos.length; i++) {
            inAll &= 1 << twos[i] / 10 | 1 << twos[i] % 10;
        }
        return inAll;
    }

    public int look(int set, int n) throws IllegalArgumentException {
        needTwosAsked(set, n);
        int found = collectTwos(set, n);
        int best = NONE;
        int least = MOST_TWOS + 1;
        for (int p = 0; found > 0 && p < seats.beach.people; p++) {
            int alike = mostAlike(p, found);
            if (alike < least) {
                least = alike;
                best = p;
            }
        }
        return best;
    }

    // ---- trays, images

    public void tray(int tray, int sort, int many) throws NoSuchElementException, IllegalArgumentException {
        needTray(tray);
        needWithin(sort, 0, 3);
        needWithin(many, 0, MOST_PLACES);
        trays[tray].lay(sort, many);
    }

    public long write(int tray, int place, long v)
            throws NoSuchElementException, IllegalStateException, IndexOutOfBoundsException {
        needTray(tray);
        needLaid(tray);
        if (place < 0 || place >= trays[tray].many) {
            throw new IndexOutOfBoundsException("no such place");
        }
        return trays[tray].put(place, v);
    }

    public int copy(int tray, int p) throws NoSuchElementException, IllegalStateException {
        needTray(tray);
        needPerson(p);
        needLaid(tray);
        Tray filled = trays[tray];
        Seats then = trial();
        for (int place = 0; place < filled.many; place++) {
            filled.put(place, then.place(p));
            then.pass(0);
        }
        return filled.many;
    }

    public void image(int i) throws NoSuchElementException {
        needImage(i);
        if (images[i] == null) {
            images[i] = new Image(seats.beach);
        }
        images[i].seats.copyFrom(seats);
        images[i].history.copyFrom(history);
    }

    public void restore(int i) throws NoSuchElementException, IllegalStateException {
        needImage(i);
        if (images[i] == null) {
            throw new IllegalStateException("no image was made");
        }
        seats.copyFrom(images[i].seats);
        history.copyFrom(images[i].history);
    }

    public int count(int what) {
        Beach beach = seats.beach;
        switch (what) {
            case 0: return beach.lines;
            case 1: return beach.columns;
            case 2: return beach.rows;
            case 3: return beach.people;
            case 4: return seats.whoIsUp();
            case 5: return seats.wet;
            case 6: return seats.minute;
            case 7: return beach.columns * beach.rows - beach.people + Integer.bitCount(seats.whoIsUp());
            case 8: return history.size;
            case 9: return tapeSize;
            default: return NONE;
        }
    }

    // ---- what a call demands

    private void needWithin(int n, int least, int most) {
        if (n < least || n > most) {
            throw new IllegalArgumentException("out of its bounds");
        }
    }

    private void needPerson(int p) {
        if (!seats.beach.isPerson(p)) {
            throw new NoSuchElementException("no such person");
        }
    }

    private void needChair(int column, int row) {
        if (!seats.beach.isChair(column, row)) {
            throw new NoSuchElementException("no such chair");
        }
    }

    private void needTwoWhoSit(int p, int q) {
        needPerson(p);
        needPerson(q);
        if (p == q) {
            throw new IllegalArgumentException("both are one");
        }
        if (seats.row[p] == NONE || seats.row[q] == NONE) {
            throw new IllegalStateException("one is up");
        }
    }

    private void needTwosAsked(int set, int n) {
        if ((set & ~seats.beach.everybody()) != 0) {
            throw new IllegalArgumentException("the set has others than people");
        }
        needWithin(n, 1, FAINT_AHEAD);
    }

    private void needTray(int tray) {
        if (tray < 0 || tray >= MOST_TRAYS) {
            throw new NoSuchElementException("no such tray");
        }
    }

    private void needLaid(int tray) {
        if (trays[tray].isMissing()) {
            throw new IllegalStateException("the tray is missing");
        }
    }

    private void needImage(int i) {
        if (i < 0 || i >= MOST_IMAGES) {
            throw new NoSuchElementException("no such image");
        }
    }

    // ---- what calls share

    private void append(int word) {
        for (int shift = 24; shift >= 0 && tapeSize < MOST_BYTES; shift -= 8) {
            tape[tapeSize] = word >>> shift & 255;
            tapeSize++;
        }
    }

    /** The seats as they are now, to be played on. */
    private Seats trial() {
        Seats then = trials[0];
        then.copyFrom(seats);
        return then;
    }

    /** The seats as they will be in n minutes, wetness left out; to be played on. */
    private Seats ahead(int n) {
        Seats then = trial();
        for (int i = 0; i < n; i++) {
            then.pass(0);
        }
        return then;
    }

    private boolean performed(long deed) {
        if (seats.whyNotTold(deed) != 0) {
            return false;
        }
        history.keep(seats);
        seats.carryOut(deed);
        return true;
    }

    private int draw() {
        drawn = 1103515245 * drawn + 12345;
        return drawn >>> 16;
    }

    /** The next deed of an afternoon, told as in a tray. */
    private int drawnDeed() {
        int sort = draw() % 5;
        if (sort < 2) {
            return NONE;
        }
        int p = draw() % 8;
        if (sort == 2) {
            return p;
        }
        return sort == 3 ? 100 + 10 * p + draw() % 4 : 200 + 10 * p + draw() % 8;
    }

    /** How many have to rise, who being left in risers; NONE if it can't be. */
    private int fewestRisers(int p, int row) {
        if (seats.row[p] == NONE) {
            return NONE;
        }
        trials[0].copyFrom(seats);
        for (int many = 0; many < MOST_ROWS; many++) {
            if (risersBring(p, row, 0, many)) {
                return many;
            }
        }
        return NONE;
    }

    /**
     * Whether so many risings, from the depth-th on, bring one to a row. Only who sits in the same column is tried:
     * the fewest never hold one whose rising changes nothing for p.
     */
    private boolean risersBring(int p, int row, int depth, int many) {
        if (depth < 0 || depth >= MOST_ROWS) {
            return false;
        }
        Seats here = trials[depth];
        if (depth == many || depth + 1 == MOST_ROWS) {
            return here.row[p] <= row;
        }
        Seats next = trials[depth + 1];
        for (int q = 0; q < here.beach.people; q++) {
            if (q != p && here.column[q] == here.column[p] && here.whyNotLeave(q) == 0) {
                next.copyFrom(here);
                next.leave(q);
                risers[depth] = q;
                if (risersBring(p, row, depth + 1, many)) {
                    return true;
                }
            }
        }
        return false;
    }

    /** Others of p's column who can rise: who rises elsewhere never changes who sits in this one. */
    private int neighboursWhoCanRise(int p) {
        int able = 0;
        for (int q = 0; q < seats.beach.people; q++) {
            if (q != p && seats.column[q] == seats.column[p] && seats.whyNotLeave(q) == 0) {
                able |= 1 << q;
            }
        }
        return able;
    }

    private boolean bringsToFront(int set, int p, int n) {
        Seats then = trial();
        for (int q = 0; q < then.beach.people; q++) {
            if ((set >> q & 1) == 1) {
                then.leave(q);
            }
        }
        for (int i = 0; i < n; i++) {
            then.pass(0);
        }
        return then.row[p] == 0;
    }

    private static long commonDivisor(long a, long b) {
        // 100 steps are plenty: numbers below 2 to the 50 need some 75.
        for (int i = 0; i < 100 && b != 0; i++) {
            long rest = a % b;
            a = b;
            b = rest;
        }
        return a;
    }

    /** How many twos there are, who they are being left in twos, where all sit then in ends. */
    private int collectTwos(int set, int n) {
        for (int i = 0; i < n && i < FAINT_AHEAD; i++) {
            levels[i] = seats.beach.tideIn(seats.minute + i);
        }
        int found = 0;
        for (int p = 0; p < seats.beach.people; p++) {
            for (int q = p + 1; q < seats.beach.people; q++) {
                if (seats.whyNotExchange(p, q) == 0 && found < MOST_TWOS) {
                    Seats then = exchangedAhead(p, q, n);
                    if ((then.wet & ~seats.wet) == set) {
                        twos[found] = 10 * p + q;
                        keepEnds(then, found);
                        found++;
                    }
                }
            }
        }
        return found;
    }

    private Seats exchangedAhead(int p, int q, int n) {
        Seats then = trial();
        then.exchange(p, q);
        for (int i = 0; i < n && i < FAINT_AHEAD; i++) {
            then.pass(levels[i]);
        }
        return then;
    }

    private void keepEnds(Seats then, int two) {
        for (int p = 0; p < then.beach.people; p++) {
            ends[two * MOST_PEOPLE + p] = then.place(p);
        }
    }

    /** The greatest number of twos by which p ends at one and the same place. */
    private int mostAlike(int p, int found) {
        int most = 0;
        for (int i = 0; i < found; i++) {
            int alike = 0;
            for (int j = 0; j < found; j++) {
                if (ends[j * MOST_PEOPLE + p] == ends[i * MOST_PEOPLE + p]) {
                    alike++;
                }
            }
            most = Math.max(most, alike);
        }
        return most;
    }

    /** A truth or a sum, compiled to run on a stack: numbers from 0 on stand for themselves. */
    private static final class Law {
        static final int WHO = -1;
        static final int AGE = -2;
        static final int COLUMN = -3;
        static final int ROW = -4;
        static final int MINUTE = -5;
        static final int NOT = -6;
        static final int AND = -7;
        static final int OR = -8;
        static final int EQUAL = -9;
        static final int LESS = -10;
        static final int GREATER = -11;
        static final int PLUS = -12;
        static final int MINUS = -13;
        static final int TIMES = -14;
        /** Six of not [ ( within one another leave at most four parts waiting in each. */
        private static final int DEEPEST = 48;
        private static final long KEPT = 1000000;

        private final int[] code;
        private final int[] stack = new int[DEEPEST];

        Law(int[] code) {
            this.code = code;
        }

        int value(int who, int age, int column, int row, int minute) {
            int top = 0;
            for (int i = 0; i < code.length; i++) {
                int sign = code[i];
                int result = sign;
                if (sign < NOT) {
                    if (top < 2) {
                        return 0;
                    }
                    top -= 2;
                    result = joined(sign, stack[top], stack[top + 1]);
                } else if (sign == NOT) {
                    if (top < 1) {
                        return 0;
                    }
                    top--;
                    result = 1 - stack[top];
                } else if (sign < 0) {
                    switch (sign) {
                        case WHO: result = who; break;
                        case AGE: result = age; break;
                        case COLUMN: result = column; break;
                        case ROW: result = row; break;
                        default: result = minute;
                    }
                }
                if (top >= DEEPEST) {
                    return 0;
                }
                stack[top] = result;
                top++;
            }
            return top > 0 ? stack[top - 1] : 0;
        }

        private static int joined(int sign, int a, int b) {
            switch (sign) {
                case AND: return a & b;
                case OR: return a | b;
                case EQUAL: return a == b ? 1 : 0;
                case LESS: return a < b ? 1 : 0;
                case GREATER: return a > b ? 1 : 0;
                default: break;
            }
            long exact = (long) a * b;
            if (sign == PLUS) {
                exact = (long) a + b;
            } else if (sign == MINUS) {
                exact = (long) a - b;
            }
            return (int) (exact > KEPT ? KEPT : exact < -KEPT ? -KEPT : exact);
        }
    }

    /** What a text tells and no deed changes. */
    private static final class Beach {
        int columns = 1;
        int rows = 1;
        int people = 0;
        int lines = 0;
        int asleep = 0;
        final int[] age = new int[MOST_PEOPLE];
        final int[] planAt = new int[MOST_PEOPLE];
        final int[] planFor = new int[MOST_PEOPLE];
        Law movesLaw = null;
        Law tideLaw = null;
        Law wetsLaw = null;

        Beach() {
            Arrays.fill(planAt, NONE);
            Arrays.fill(planFor, NONE);
        }

        boolean isPerson(int p) {
            return p >= 0 && p < people;
        }

        boolean isColumn(int column) {
            return column >= 0 && column < columns;
        }

        boolean isChair(int column, int row) {
            return isColumn(column) && row >= 0 && row < rows;
        }

        boolean isAsleep(int p) {
            return (asleep >> p & 1) == 1;
        }

        int everybody() {
            return (1 << people) - 1;
        }

        boolean lawful(int p, int column, int row, int minute) {
            return movesLaw == null || movesLaw.value(p, age[p], column, row, minute) != 0;
        }

        int tideIn(int minute) {
            if (tideLaw == null) {
                return 0;
            }
            return Math.max(0, Math.min(rows, tideLaw.value(0, 0, 0, 0, minute)));
        }

        int waveOn(int column, int row, int minute) {
            if (wetsLaw == null) {
                return row == 0 ? 5 : 0;
            }
            return Math.max(0, Math.min(10, wetsLaw.value(0, 0, column, row, minute)));
        }
    }

    /** Who sits where, who is wet, who is to come back, and when it is: all that deeds change. */
    private static final class Seats {
        final int[] chairs = new int[MOST_COLUMNS * MOST_ROWS];
        /** Where one sits, or sat last. */
        final int[] column = new int[MOST_PEOPLE];
        /** NONE: it is up. */
        final int[] row = new int[MOST_PEOPLE];
        /** The minute in which one sits down by its plan; NONE: it isn't up by it. */
        final int[] back = new int[MOST_PEOPLE];
        Beach beach;
        int wet = 0;
        int minute = 0;

        Seats(Beach beach) {
            this.beach = beach;
            Arrays.fill(chairs, NONE);
            Arrays.fill(row, NONE);
            Arrays.fill(back, NONE);
        }

        void copyFrom(Seats other) {
            System.arraycopy(other.chairs, 0, chairs, 0, chairs.length);
            System.arraycopy(other.column, 0, column, 0, MOST_PEOPLE);
            System.arraycopy(other.row, 0, row, 0, MOST_PEOPLE);
            System.arraycopy(other.back, 0, back, 0, MOST_PEOPLE);
            beach = other.beach;
            wet = other.wet;
            minute = other.minute;
        }

        void clearFor(Beach another) {
            beach = another;
            wet = 0;
            minute = 0;
            Arrays.fill(chairs, NONE);
            Arrays.fill(column, 0);
            Arrays.fill(row, NONE);
            Arrays.fill(back, NONE);
        }

        int whoOn(int c, int r) {
            return beach.isChair(c, r) ? chairs[c * MOST_ROWS + r] : NONE;
        }

        void put(int p, int c, int r) {
            if (beach.isChair(c, r)) {
                chairs[c * MOST_ROWS + r] = p;
                column[p] = c;
                row[p] = r;
            }
        }

        int place(int p) {
            return row[p] == NONE ? NONE : 10 * column[p] + row[p];
        }

        // Why not: 1 there is no such, 2 it is up or sits, 3 it is asleep or nothing is free.

        int whyNotLeave(int p) {
            if (!beach.isPerson(p)) {
                return 1;
            }
            if (row[p] == NONE) {
                return 2;
            }
            return beach.isAsleep(p) ? 3 : 0;
        }

        int whyNotTake(int p, int c) {
            if (!beach.isPerson(p) || !beach.isColumn(c)) {
                return 1;
            }
            if (row[p] != NONE) {
                return 2;
            }
            return hindmostFree(c) == NONE ? 3 : 0;
        }

        int whyNotExchange(int p, int q) {
            if (!beach.isPerson(p) || !beach.isPerson(q) || p == q) {
                return 1;
            }
            return row[p] == NONE || row[q] == NONE ? 2 : 0;
        }

        int whyNotTold(long deed) {
            if (deed == NONE) {
                return 0;
            }
            if (deed < 0 || deed > 299 || deed >= 10 && deed < 100) {
                return 1;
            }
            int told = (int) deed;
            if (told < 100) {
                return whyNotLeave(told);
            }
            int p = told / 10 % 10;
            return told < 200 ? whyNotTake(p, told % 10) : whyNotExchange(p, told % 10);
        }

        /** Does a told deed for which whyNotTold() has answered 0. */
        void carryOut(long deed) {
            int told = (int) deed;
            int p = told / 10 % 10;
            if (told == NONE) {
                pass(level());
            } else if (told < 100) {
                leave(told);
            } else if (told < 200) {
                take(p, told % 10);
            } else {
                exchange(p, told % 10);
            }
        }

        /** One rises who sits: how many came forward. */
        int leave(int p) {
            int c = column[p];
            int free = row[p];
            if (!beach.isChair(c, free)) {
                return 0;
            }
            int first = c * MOST_ROWS;
            chairs[first + free] = NONE;
            row[p] = NONE;
            int came = 0;
            for (int r = free + 1; r < beach.rows; r++) {
                int who = chairs[first + r];
                if (who != NONE && !beach.isAsleep(who) && beach.lawful(who, c, free, minute)) {
                    chairs[first + r] = NONE;
                    chairs[first + free] = who;
                    row[who] = free;
                    free = r;
                    came++;
                }
            }
            return came;
        }

        /** One sits down who is up: the row, NONE if no chair of the column is free. */
        int take(int p, int c) {
            int r = hindmostFree(c);
            if (r != NONE) {
                put(p, c, r);
                back[p] = NONE;
            }
            return r;
        }

        void exchange(int p, int q) {
            int c = column[p];
            int r = row[p];
            put(p, column[q], row[q]);
            put(q, c, r);
        }

        int level() {
            return beach.tideIn(minute);
        }

        /** A minute, the tide being up so many rows. */
        void pass(int level) {
            int people = beach.people;
            for (int p = 0; p < people; p++) {
                if (back[p] != NONE && back[p] <= minute) {
                    take(p, column[p]);
                }
            }
            for (int p = 0; p < people; p++) {
                if (beach.planAt[p] == minute && row[p] != NONE && !beach.isAsleep(p)) {
                    leave(p);
                    back[p] = minute + beach.planFor[p];
                }
            }
            for (int p = 0; level > 0 && p < people; p++) {
                if (row[p] != NONE && row[p] < level) {
                    wet |= 1 << p;
                }
            }
            minute++;
        }

        /** So many of 10 to the n that one isn't wetted in the n minutes that go by here. */
        long dryChances(int p, int n) {
            long chances = 1;
            for (int i = 0; i < n; i++) {
                int begun = minute;
                pass(0);
                chances *= row[p] == NONE ? 10 : 10 - beach.waveOn(column[p], row[p], begun);
            }
            return chances;
        }

        private int hindmostFree(int c) {
            for (int r = beach.rows - 1; r >= 0; r--) {
                if (beach.isChair(c, r) && chairs[c * MOST_ROWS + r] == NONE) {
                    return r;
                }
            }
            return NONE;
        }

        int foremostAwake(int c) {
            for (int r = 0; r < beach.rows; r++) {
                int who = whoOn(c, r);
                if (who != NONE && !beach.isAsleep(who)) {
                    return who;
                }
            }
            return NONE;
        }

        int inFront() {
            return sittersOf(0);
        }

        int sittersOf(int r) {
            int bits = 0;
            for (int p = 0; p < beach.people; p++) {
                if (row[p] == r) {
                    bits |= 1 << p;
                }
            }
            return bits;
        }

        int sittersIn(int c) {
            int bits = 0;
            for (int p = 0; p < beach.people; p++) {
                if (row[p] != NONE && column[p] == c) {
                    bits |= 1 << p;
                }
            }
            return bits;
        }

        int whoIsUp() {
            return sittersOf(NONE);
        }

        /** These and all who sit side by side with one of them. */
        private int widened(int bits) {
            int wider = bits;
            for (int p = 0; p < beach.people; p++) {
                if ((bits >> p & 1) == 1 && row[p] != NONE) {
                    wider |= bitOn(column[p] - 1, row[p]) | bitOn(column[p] + 1, row[p]);
                    wider |= bitOn(column[p], row[p] - 1) | bitOn(column[p], row[p] + 1);
                }
            }
            return wider;
        }

        private int bitOn(int c, int r) {
            int who = whoOn(c, r);
            return who == NONE ? 0 : 1 << who;
        }

        /** The fewest between some who sit and another one, nobody of without being there; NONE: no way. */
        int between(int from, int to, int without) {
            int reached = from;
            for (int hands = 0; hands < MOST_PEOPLE; hands++) {
                reached = widened(reached) & ~without;
                if ((reached >> to & 1) == 1) {
                    return hands;
                }
            }
            return NONE;
        }

        int heapOf(int p) {
            int reached = 1 << p;
            for (int i = 0; i < MOST_PEOPLE; i++) {
                reached = widened(reached);
            }
            return reached;
        }
    }

    /** The seats as they were ahead of the latest deeds, the eldest at first. */
    private static final class History {
        private final Seats[] kept = new Seats[MOST_DEEDS];
        private int first = 0;
        int size = 0;

        History(Beach beach) {
            for (int i = 0; i < MOST_DEEDS; i++) {
                kept[i] = new Seats(beach);
            }
        }

        void keep(Seats seats) {
            kept[(first + size) % MOST_DEEDS].copyFrom(seats);
            if (size < MOST_DEEDS) {
                size++;
            } else {
                first = (first + 1) % MOST_DEEDS;
            }
        }

        void goBack(int n, Seats seats) {
            if (n >= 0 && n <= size) {
                size -= n;
                seats.copyFrom(kept[(first + size) % MOST_DEEDS]);
            }
        }

        void forget() {
            first = 0;
            size = 0;
        }

        void copyFrom(History other) {
            for (int i = 0; i < MOST_DEEDS; i++) {
                kept[i].copyFrom(other.kept[i]);
            }
            first = other.first;
            size = other.size;
        }
    }

    private static final class Image {
        final Seats seats;
        final History history;

        Image(Beach beach) {
            seats = new Seats(beach);
            history = new History(beach);
        }
    }

    /** A row of numbers, all of one sort. */
    private static final class Tray {
        private int sort = NONE;
        int many = 0;
        final long[] numbers = new long[MOST_PLACES];

        boolean isMissing() {
            return sort == NONE;
        }

        void lay(int newSort, int newMany) {
            sort = newSort;
            many = newMany;
            Arrays.fill(numbers, 0);
        }

        long put(int place, long v) {
            long held = v;
            if (sort == 0) {
                held = (byte) v;
            } else if (sort == 1) {
                held = (short) v;
            } else if (sort == 2) {
                held = (int) v;
            }
            if (place >= 0 && place < many) {
                numbers[place] = held;
            }
            return held;
        }
    }

    /** Reads a text into a beach and its seats, or finds the first fault. */
    private static final class Reader {
        /** Kinds of tokens; a sign's kind is the sign itself. */
        private static final int END = 0;
        private static final int BAD = 1;
        private static final int NUMBER = 2;
        private static final int UNKNOWN = 3;
        private static final int BEACH = 4;
        private static final int PERSON = 5;
        private static final int AT = 6;
        private static final int MOVES = 7;
        private static final int TIDE = 8;
        private static final int WETS = 9;
        private static final int MINUTE = 10;
        private static final int AGE = 11;
        private static final int ASLEEP = 12;
        private static final int RISES = 13;
        private static final int FOR = 14;
        private static final int NOT = 15;
        private static final int AND = 16;
        private static final int OR = 17;
        private static final int WHO = 18;
        private static final int COLUMN = 19;
        private static final int ROW = 20;
        private static final String SIGNS = ";:+-*()[]=<>";
        private static final int MOST_DIGITS = 3;
        private static final int DEEPEST = 6;
        private static final int MISPLACED = 2;
        private static final int OUT_OF_BOUNDS = 3;
        private static final int TOO_MANY = 4;

        private final int[] kinds = new int[MOST_BYTES + 1];
        private final int[] values = new int[MOST_BYTES + 1];
        private final int[] places = new int[MOST_BYTES + 1];
        private final int[] code = new int[MOST_BYTES];
        private int tokens = 0;
        private int at = 0;
        private int size = 0;
        /** Which law is read: MOVES, TIDE or WETS; it says which names stand. */
        private int law = TIDE;
        private Beach beach;
        final Seats made;
        int fault = 0;
        int place = NONE;

        Reader(Seats made) {
            this.made = made;
            beach = made.beach;
        }

        /** Reads a text's tokens and its line of the beach. */
        void open(int[] text, int length) {
            scan(text, length);
            at = 0;
            fault = 0;
            place = NONE;
            beach = new Beach();
            made.clearFor(beach);
            need(BEACH);
            beach.columns = number(1, MOST_COLUMNS);
            beach.rows = number(1, MOST_ROWS);
            need(';');
            beach.lines = 1;
        }

        boolean hasMore() {
            return fault == 0 && kind() != END;
        }

        // ---- tokens

        private void scan(int[] text, int length) {
            tokens = 0;
            int end = 0;
            for (int from = 0; from < length && from < text.length; from = end) {
                int sign = text[from];
                end = from + 1;
                if (isLetter(sign)) {
                    while (end < length && end < text.length && isLetter(text[end])) {
                        end++;
                    }
                    keep(word(text, from, end), 0, from);
                } else if (isDigit(sign)) {
                    int value = sign - '0';
                    while (end < length && end < text.length && isDigit(text[end])) {
                        value = (value * 10 + text[end] - '0') % 1000;
                        end++;
                    }
                    keep(end - from > MOST_DIGITS ? BAD : NUMBER, value, from);
                } else if (sign != ' ' && sign != '\n') {
                    keep(SIGNS.indexOf((char) sign) >= 0 ? sign : BAD, 0, from);
                }
            }
            keep(END, 0, length);
        }

        private void keep(int kind, int value, int from) {
            if (tokens < kinds.length) {
                kinds[tokens] = kind;
                values[tokens] = value;
                places[tokens] = from;
                tokens++;
            }
        }

        private static boolean isLetter(int sign) {
            return sign >= 'a' && sign <= 'z';
        }

        private static boolean isDigit(int sign) {
            return sign >= '0' && sign <= '9';
        }

        private static int word(int[] text, int from, int end) {
            if (spells(text, from, end, "beach")) { return BEACH; }
            if (spells(text, from, end, "person")) { return PERSON; }
            if (spells(text, from, end, "at")) { return AT; }
            if (spells(text, from, end, "moves")) { return MOVES; }
            if (spells(text, from, end, "tide")) { return TIDE; }
            if (spells(text, from, end, "wets")) { return WETS; }
            if (spells(text, from, end, "minute")) { return MINUTE; }
            if (spells(text, from, end, "age")) { return AGE; }
            if (spells(text, from, end, "asleep")) { return ASLEEP; }
            if (spells(text, from, end, "rises")) { return RISES; }
            if (spells(text, from, end, "for")) { return FOR; }
            if (spells(text, from, end, "not")) { return NOT; }
            if (spells(text, from, end, "and")) { return AND; }
            if (spells(text, from, end, "or")) { return OR; }
            if (spells(text, from, end, "who")) { return WHO; }
            if (spells(text, from, end, "column")) { return COLUMN; }
            return spells(text, from, end, "row") ? ROW : UNKNOWN;
        }

        private static boolean spells(int[] text, int from, int end, String word) {
            if (end - from != word.length() || from < 0 || end > text.length) {
                return false;
            }
            for (int i = 0; i < word.length(); i++) {
                if (text[from + i] != word.charAt(i)) {
                    return false;
                }
            }
            return true;
        }

        // ---- steps along the tokens; behind a fault none is taken

        private int kind() {
            return at >= 0 && at < tokens ? kinds[at] : END;
        }

        private void fail(int kind) {
            if (fault == 0 && at < tokens) {
                fault = kinds[at] == BAD ? BAD : kind;
                place = places[at];
            }
        }

        private void need(int kind) {
            if (fault == 0 && kind() == kind) {
                at++;
            } else {
                fail(MISPLACED);
            }
        }

        private int number(int least, int most) {
            if (fault != 0 || kind() != NUMBER) {
                fail(MISPLACED);
                return least;
            }
            int value = values[at];
            if (value < least || value > most) {
                fail(OUT_OF_BOUNDS);
                return least;
            }
            at++;
            return value;
        }

        // ---- lines

        void line() {
            int kind = kind();
            if (kind == PERSON) {
                personLine();
            } else if (kind == MINUTE) {
                at++;
                made.minute = number(0, 999);
            } else if (kind == MOVES || kind == TIDE || kind == WETS) {
                at++;
                need(':');
                law = kind;
                size = 0;
                if (kind == MOVES) {
                    truth(0);
                } else {
                    sum(0);
                }
                keepLaw();
            } else {
                fail(MISPLACED);
            }
            need(';');
            beach.lines++;
        }

        private void keepLaw() {
            if (fault != 0) {
                return;
            }
            Law read = new Law(Arrays.copyOf(code, size));
            if (law == MOVES) {
                beach.movesLaw = read;
            } else if (law == TIDE) {
                beach.tideLaw = read;
            } else {
                beach.wetsLaw = read;
            }
        }

        private void personLine() {
            int p = beach.people;
            if (p >= MOST_PEOPLE) {
                fail(TOO_MANY);
                return;
            }
            at++;
            need(AT);
            int column = number(0, beach.columns - 1);
            int row = freeRow(column);
            if (fault != 0) {
                return;
            }
            made.put(p, column, row);
            beach.people++;
            for (int i = 0; i < MOST_BYTES && fault == 0 && kind() != ';'; i++) {
                flag(p);
            }
        }

        private int freeRow(int column) {
            if (fault == 0 && kind() == NUMBER && made.whoOn(column, values[at]) != NONE) {
                fail(OUT_OF_BOUNDS);
            }
            return number(0, beach.rows - 1);
        }

        private void flag(int p) {
            int kind = kind();
            if (kind != AGE && kind != ASLEEP && kind != RISES) {
                fail(MISPLACED);
                return;
            }
            at++;
            if (kind == AGE) {
                beach.age[p] = number(0, 99);
            } else if (kind == ASLEEP) {
                beach.asleep |= 1 << p;
            } else {
                beach.planAt[p] = number(0, 999);
                need(FOR);
                beach.planFor[p] = number(1, 99);
            }
        }

        // ---- laws; depth: how many of not [ ( are open

        private void emit(int sign) {
            if (fault == 0 && size < code.length) {
                code[size] = sign;
                size++;
            }
        }

        private void truth(int depth) {
            for (int i = 0; i < MOST_BYTES && fault == 0; i++) {
                unit(depth);
                for (int j = 0; j < MOST_BYTES && fault == 0 && kind() == AND; j++) {
                    at++;
                    unit(depth);
                    emit(Law.AND);
                }
                if (i > 0) {
                    emit(Law.OR);
                }
                if (kind() != OR) {
                    return;
                }
                at++;
            }
        }

        private void unit(int depth) {
            int kind = kind();
            if (fault != 0) {
                return;
            }
            if (depth >= DEEPEST && (kind == NOT || kind == '[')) {
                fail(TOO_MANY);
            } else if (kind == NOT) {
                at++;
                unit(depth + 1);
                emit(Law.NOT);
            } else if (kind == '[') {
                at++;
                truth(depth + 1);
                need(']');
            } else {
                sum(depth);
                int sign = kind();
                if (sign != '=' && sign != '<' && sign != '>') {
                    fail(MISPLACED);
                    return;
                }
                at++;
                sum(depth);
                emit(sign == '=' ? Law.EQUAL : sign == '<' ? Law.LESS : Law.GREATER);
            }
        }

        private void sum(int depth) {
            int sign = '+';
            for (int i = 0; i < MOST_BYTES && fault == 0; i++) {
                atom(depth);
                for (int j = 0; j < MOST_BYTES && fault == 0 && kind() == '*'; j++) {
                    at++;
                    atom(depth);
                    emit(Law.TIMES);
                }
                if (i > 0) {
                    emit(sign == '+' ? Law.PLUS : Law.MINUS);
                }
                sign = kind();
                if (sign != '+' && sign != '-') {
                    return;
                }
                at++;
            }
        }

        private void atom(int depth) {
            int kind = kind();
            if (fault != 0) {
                return;
            }
            if (depth >= DEEPEST && kind == '(') {
                fail(TOO_MANY);
            } else if (kind == '(') {
                at++;
                sum(depth + 1);
                need(')');
            } else if (kind == NUMBER) {
                emit(values[at]);
                at++;
            } else {
                int name = named(kind);
                if (name == 0) {
                    fail(MISPLACED);
                    return;
                }
                emit(name);
                at++;
            }
        }

        /** The law's sign for a name that stands in it; 0 for others. */
        private int named(int kind) {
            switch (kind) {
                case MINUTE: return Law.MINUTE;
                case COLUMN: return law == TIDE ? 0 : Law.COLUMN;
                case ROW: return law == TIDE ? 0 : Law.ROW;
                case WHO: return law == MOVES ? Law.WHO : 0;
                case AGE: return law == MOVES ? Law.AGE : 0;
                default: return 0;
            }
        }
    }
}
