import java.util.Arrays;
import java.util.NoSuchElementException;

/** A harbour in the air: balloons at the rings of a tower, by wind and weight. */
public final class BalloonsMoor {
    public static final int NONE = -1;

    private static final int TEXT_SIGNS = 80;
    private static final int TOWER_SIGNS = 23;
    private static final int BALLOONS_SIGNS = 47;
    private static final int WINDS_SIGNS = 29;
    private static final int RULE_SIGNS = 40;
    private static final int DAY_SIGNS = 60;

    private static final int MOST_RINGS = 8;
    private static final int MOST_BALLOONS = 6;
    private static final int MOST_GAS = 99;
    private static final int MOST_SACKS = 9;
    private static final int MOST_CARGO = 9;
    private static final int MOST_ROPE = 9;
    private static final int MOST_RAIN = 9;
    private static final int MOST_MARKS = 12;
    private static final int MOST_MARKED = 99;
    private static final int MOST_HOURS = 48;
    private static final int MOST_LANDING = 6;
    private static final int MOST_CHANCE = 8;
    private static final int MOST_ACTS = 20;
    private static final int MOST_UNDONE = 15;
    private static final int MOST_KEPT = 3;
    private static final int HEIGHTS = 10;
    private static final int EDGE = 9;
    private static final int WIDTH = 19;
    private static final int YARD_REACH = 2;

    private static final int YARD = 0;
    private static final int FREE = 1;
    private static final int MOORED = 2;
    private static final int LOST = 3;

    private final Told told;
    private final Tower rings;
    private final Winds air;
    private final Rule lifting;
    private final Flock flock;
    private final Flock dream;
    private final Past past;
    private final Answers answers;
    private final Marks marks;
    private final Acts acts;
    private final Berths berthing;
    private final Landing landing;

    public BalloonsMoor() {
        told = new Told();
        rings = new Tower();
        air = new Winds();
        lifting = new Rule();
        flock = new Flock(rings, air, lifting);
        dream = new Flock(rings, air, lifting);
        past = new Past();
        answers = new Answers();
        marks = new Marks();
        acts = new Acts();
        berthing = new Berths(rings, flock);
        landing = new Landing(flock, air);
    }

    // ---- the tower, balloons, winds

    public int sign(int v) {
        if (told.size + 4 > TEXT_SIGNS) {
            return NONE;
        }
        for (int shift = 24; shift >= 0; shift -= 8) {
            told.append((char) ((v >>> shift) & 255));
        }
        return told.size;
    }

    public boolean end(int n) {
        if (n < 0 || n > told.size) {
            return false;
        }
        told.size = n;
        return true;
    }

    public int tower() {
        told.open(TOWER_SIGNS);
        int lines = rings.read(told);
        told.close();
        if (lines < 0) {
            return told.fault();
        }
        flock.leave();
        marks.size = 0;
        past.forgetActs();
        past.forgetKept();
        return lines;
    }

    public int balloons() {
        told.open(BALLOONS_SIGNS);
        int lines = flock.read(told);
        told.close();
        if (lines < 0) {
            return told.fault();
        }
        if (lines > 0) {
            past.forgetActs();
            past.forgetKept();
        }
        return lines;
    }

    public int winds() {
        told.open(WINDS_SIGNS);
        boolean fine = air.read(told);
        told.close();
        return fine ? air.blowing() : told.fault();
    }

    public int rule() {
        told.open(RULE_SIGNS);
        boolean fine = lifting.read(told);
        told.close();
        return fine ? 0 : told.fault();
    }

    public int ring(int ring, int what) throws NoSuchElementException {
        if (!rings.has(ring)) {
            throw new NoSuchElementException();
        }
        int height = rings.height[ring];
        switch (what) {
            case 0: return height;
            case 1: return rings.side[ring];
            case 2: return flock.guestAt(ring);
            case 3: return air.whither[height];
            case 4: return air.strong[height];
            default: throw new NoSuchElementException();
        }
    }

    public int balloon(int balloon, int what) throws NoSuchElementException {
        if (!flock.has(balloon)) {
            throw new NoSuchElementException();
        }
        switch (what) {
            case 0: return flock.gas[balloon];
            case 1: return flock.sacks[balloon];
            case 2: return flock.cargo[balloon];
            case 3: return flock.rope[balloon];
            case 4: return flock.leak[balloon];
            case 5: return flock.weightOf(balloon);
            case 6: return highBy(flock.liftOf(balloon));
            case 7: return flock.where[balloon];
            case 8: return flock.ringOf(balloon);
            case 9: return flock.cellOf(balloon);
            default: throw new NoSuchElementException();
        }
    }

    public int lift(int balloon) throws NoSuchElementException {
        if (!flock.has(balloon)) {
            throw new NoSuchElementException();
        }
        return flock.liftOf(balloon);
    }

    public int rain(int v) {
        if (v < 0 || v > MOST_RAIN) {
            return NONE;
        }
        int was = flock.rain;
        flock.rain = v;
        return was;
    }

    public int sheet(int kind, int n, int f, int step) {
        if (kind < 0 || kind > 3 || n > MOST_BALLOONS) {
            return NONE;
        }
        boolean missing = kind == 3;
        if (!missing && n < 0) {
            return -2;
        }
        int entries = missing ? 0 : n;
        int sum = 0;
        for (int b = 0; b < flock.size; b++) {
            int gas = b < entries ? entryOf(kind, f + b * step) : 0;
            flock.gas[b] = gas;
            sum += gas;
        }
        return missing ? -3 : sum;
    }

    private static int entryOf(int kind, int v) {
        int entry = v;
        if (kind == 0) {
            entry = (byte) v;
        } else if (kind == 1) {
            entry = (short) v;
        }
        return Math.max(0, Math.min(MOST_GAS, entry));
    }

    // ---- acts

    public int launch(int balloon) {
        past.note(flock);
        return remembered(setFree(flock, balloon));
    }

    public int moor(int balloon, int ring) {
        past.note(flock);
        return remembered(tie(balloon, ring));
    }

    public int cast(int balloon) {
        past.note(flock);
        return remembered(untie(flock, balloon));
    }

    public int sacks(int balloon, int n) {
        past.note(flock);
        return remembered(load(balloon, n));
    }

    public int cargo(int balloon, int v) {
        if (!flock.has(balloon) || v < 0 || v > MOST_CARGO) {
            return NONE;
        }
        if (!flock.isAtHand(balloon)) {
            return -2;
        }
        past.note(flock);
        int was = flock.cargo[balloon];
        flock.cargo[balloon] = v;
        return remembered(was);
    }

    public int fill(int balloon, int v) {
        if (!flock.has(balloon) || v < 0 || v > MOST_GAS) {
            return NONE;
        }
        if (flock.where[balloon] != YARD) {
            return -2;
        }
        past.note(flock);
        int was = flock.gas[balloon];
        flock.gas[balloon] = v;
        return remembered(was);
    }

    public int hours(int n) {
        if (n < 0 || n > MOST_HOURS) {
            return NONE;
        }
        past.note(flock);
        int now = remembered(flock.passHours(n));
        tell(flock.cameDown, flock.wentLost);
        return now;
    }

    public int day() {
        told.open(DAY_SIGNS);
        boolean fine = acts.read(told);
        told.close();
        if (!fine) {
            return told.fault();
        }
        past.note(flock);
        int lostAhead = Integer.bitCount(flock.those(LOST));
        int done = 0;
        while (done < acts.size && carryOut(done) >= 0) {
            done++;
        }
        if (done > 0) {
            past.hold();
        }
        tell(done < acts.size ? 1 : 0, Integer.bitCount(flock.those(LOST)) - lostAhead);
        return done;
    }

    public int undo() {
        return past.takeBack(flock) ? past.size : NONE;
    }

    /** Only an act that was done can be undone: what was noted ahead of a refused one is let go. */
    private int remembered(int answer) {
        if (answer >= 0) {
            past.hold();
        }
        return answer;
    }

    private static int setFree(Flock those, int balloon) {
        if (!those.has(balloon)) {
            return NONE;
        }
        if (those.where[balloon] != YARD) {
            return -2;
        }
        int lift = those.liftOf(balloon);
        if (lift < 0) {
            return -3;
        }
        those.setLoose(balloon);
        return highBy(lift);
    }

    private int tie(int balloon, int ring) {
        if (!flock.has(balloon) || !rings.has(ring)) {
            return NONE;
        }
        if (flock.where[balloon] != FREE) {
            return -2;
        }
        if (flock.farness(balloon) > flock.rope[balloon]) {
            return -3;
        }
        int height = rings.height[ring];
        if (Math.abs(highBy(flock.liftOf(balloon)) - height) > 1) {
            return -4;
        }
        if (flock.guestAt(ring) != NONE) {
            return -5;
        }
        flock.where[balloon] = MOORED;
        flock.ring[balloon] = ring;
        return height;
    }

    private static int untie(Flock those, int balloon) {
        if (!those.has(balloon)) {
            return NONE;
        }
        if (those.where[balloon] != MOORED) {
            return -2;
        }
        int ring = those.ring[balloon];
        those.setLoose(balloon);
        return ring;
    }

    private int load(int balloon, int n) {
        if (!flock.has(balloon) || n == 0) {
            return NONE;
        }
        if (n > 0 && !flock.isAtHand(balloon) || flock.where[balloon] == LOST) {
            return -2;
        }
        int has = flock.sacks[balloon];
        if (n > MOST_SACKS - has || n < -has) {
            return -3;
        }
        flock.sacks[balloon] = has + n;
        return has + n;
    }

    private int carryOut(int i) {
        if (i < 0 || i >= acts.size) {
            return NONE;
        }
        int first = acts.first[i];
        int second = acts.second[i];
        switch (acts.kind[i]) {
            case 'l': return setFree(flock, first);
            case 'm': return tie(first, second);
            case 'c': return untie(flock, first);
            case 's': return load(first, second);
            case 'h': return first > MOST_HOURS ? NONE : flock.passHours(first);
            default: return NONE;
        }
    }

    // ---- as it is, hours to come

    public int touches() {
        answers.size = 0;
        int pairs = 0;
        for (int a = 0; a < flock.size; a++) {
            for (int b = a + 1; b < flock.size; b++) {
                if (flock.doTouch(a, b)) {
                    pairs++;
                    tellFirst(pairs, a, b);
                }
            }
        }
        return pairs;
    }

    public int breaches() {
        answers.size = 0;
        int pairs = 0;
        for (int a = 0; a < flock.size; a++) {
            for (int b = 0; b < flock.size; b++) {
                if (flock.doesBreach(a, b)) {
                    pairs++;
                    tellFirst(pairs, a, b);
                }
            }
        }
        return pairs;
    }

    public int drifts(int balloon, int n) {
        if (!flock.has(balloon) || n < 0 || n > 60) {
            return NONE;
        }
        dream.become(flock);
        dream.passHours(n);
        int where = dream.where[balloon];
        tell(dream.gas[balloon], where == MOORED ? dream.ringOf(balloon) : dream.cellOf(balloon));
        return where;
    }

    public int sinks(int balloon) {
        if (!flock.has(balloon)) {
            return NONE;
        }
        if (!flock.isUp(balloon)) {
            return -3;
        }
        dream.become(flock);
        for (int hour = 1; hour <= 99; hour++) {
            dream.passHours(1);
            if (!dream.isUp(balloon)) {
                answers.size = 0;
                answers.add(dream.where[balloon]);
                return hour;
            }
        }
        return -2;
    }

    public int rises(int balloon, int v) {
        if (!flock.has(balloon) || v < 0 || v >= HEIGHTS) {
            return NONE;
        }
        if (flock.where[balloon] == LOST) {
            return -3;
        }
        int has = flock.sacks[balloon];
        for (int dropped = 0; dropped <= has; dropped++) {
            int high = highBy(flock.liftAs(balloon, flock.gas[balloon], has - dropped, 0));
            if (high >= v) {
                answers.size = 0;
                answers.add(high);
                return dropped;
            }
        }
        return -2;
    }

    // ---- berths

    public int berths(int those) {
        if (!flock.areAll(those)) {
            return NONE;
        }
        berthing.choose(those);
        int ways = berthing.waysAll();
        answers.size = 0;
        for (int i = 0; ways > 0 && i < berthing.size; i++) {
            answers.add(berthing.least[i]);
        }
        return ways;
    }

    public int served(int those) {
        if (!flock.areAll(those)) {
            return NONE;
        }
        int most = 0;
        int best = 0;
        for (int some = 1; some <= those; some++) {
            if ((some & ~those) == 0 && Integer.bitCount(some) > most) {
                berthing.choose(some);
                if (berthing.canAll()) {
                    most = Integer.bitCount(some);
                    best = some;
                }
            }
        }
        answers.size = 0;
        answers.add(best);
        return most;
    }

    public int yields(int balloon) {
        if (!flock.has(balloon)) {
            return NONE;
        }
        int open = (1 << rings.size) - 1;
        int weight = flock.weightOf(balloon);
        for (int b = 0; b < flock.size; b++) {
            if (flock.where[b] == MOORED) {
                open &= ~(1 << flock.ring[b]);
                if (b != balloon) {
                    open &= ~rings.barredBy(flock.ring[b], flock.weightOf(b), weight);
                }
            }
        }
        answers.size = 0;
        answers.add(Integer.bitCount(open));
        return open;
    }

    // ---- landings

    public int lands(int balloon, int ring, int n) {
        if (!flock.has(balloon) || !rings.has(ring) || n < 0 || n > MOST_LANDING) {
            return NONE;
        }
        if (flock.where[balloon] != FREE) {
            return -3;
        }
        if (flock.guestAt(ring) != NONE) {
            return -4;
        }
        landing.survey(balloon, n);
        if (!landing.plan(rings.height[ring]) || !landing.retrace()) {
            return -2;
        }
        tell(landing.hours, landing.drops[0]);
        for (int t = 1; t <= landing.hours; t++) {
            answers.add(landing.drops[t]);
        }
        return landing.sacks;
    }

    public int nearest(int balloon, int n) {
        if (!flock.has(balloon) || n < 0 || n > MOST_LANDING) {
            return NONE;
        }
        if (flock.where[balloon] != FREE) {
            return -3;
        }
        landing.survey(balloon, n);
        int best = NONE;
        int sacks = 0;
        int hours = 0;
        for (int r = 0; r < rings.size; r++) {
            if (flock.guestAt(r) == NONE && landing.plan(rings.height[r])
                    && (best == NONE || landing.beats(sacks, hours))) {
                best = r;
                sacks = landing.sacks;
                hours = landing.hours;
            }
        }
        if (best == NONE) {
            return -2;
        }
        tell(sacks, hours);
        return best;
    }

    // ---- storms, prices

    public int storm() {
        int rest = flock.those(MOORED);
        int most = savable(rest, 0);
        answers.size = 0;
        for (int hour = 1; hour <= most; hour++) {
            int next = firstDown(rest, hour, most);
            if (next != NONE) {
                answers.add(next);
                rest &= ~(1 << next);
            }
        }
        return most;
    }

    /** The most of some that can still be let down, when so many hours are gone. */
    private int savable(int those, int gone) {
        int saved = 0;
        for (int hour = gone + 1; hour <= MOST_ROPE; hour++) {
            saved = Math.min(saved + withRope(those, hour), hour - gone);
        }
        return saved;
    }

    private int withRope(int those, int rope) {
        int found = 0;
        for (int b = 0; b < flock.size; b++) {
            if (((those >> b) & 1) == 1 && flock.rope[b] == rope) {
                found++;
            }
        }
        return found;
    }

    /** Of those that can go in this hour, the first that leaves as many to be saved as there can be. */
    private int firstDown(int rest, int hour, int most) {
        for (int b = 0; b < flock.size; b++) {
            if (((rest >> b) & 1) == 1 && flock.rope[b] >= hour
                    && hour + savable(rest & ~(1 << b), hour) == most) {
                return b;
            }
        }
        return NONE;
    }

    public int rests(int c) {
        if (c < 0 || c > 9) {
            return NONE;
        }
        answers.size = 0;
        int pairs = 0;
        for (int a = 1; a <= 9; a++) {
            for (int b = 1; b <= 9; b++) {
                if (isContent(a, b, c) && isContent(b, a, c)) {
                    pairs++;
                    tellFirst(pairs, a, b);
                }
            }
        }
        return pairs;
    }

    private static boolean isContent(int mine, int others, int c) {
        for (int price = 1; price <= 9; price++) {
            if (gain(price, others, c) > gain(mine, others, c)) {
                return false;
            }
        }
        return true;
    }

    private static int gain(int mine, int others, int c) {
        int sold = mine < others ? 6 : mine == others ? 3 : 0;
        return (mine - c) * sold;
    }

    // ---- who lay where

    public int mark(int ring, int what, int v) {
        if (!rings.has(ring) || what < 0 || what > 2 || v < 0 || v > MOST_MARKED
                || marks.size >= MOST_MARKS) {
            return NONE;
        }
        marks.add(ring, what, v);
        return marks.size;
    }

    public int wipe() {
        int had = marks.size;
        marks.size = 0;
        return had;
    }

    public int lay(int ring) {
        if (!rings.has(ring)) {
            return NONE;
        }
        int fitting = marks.fitting(flock, ring);
        answers.size = 0;
        answers.add(Integer.bitCount(fitting));
        return fitting;
    }

    public int ways() {
        int ways = marks.goThrough(flock);
        answers.size = 0;
        for (int i = 0; ways > 0 && i < marks.seen; i++) {
            answers.add(marks.least[i]);
        }
        return ways;
    }

    public int sure() {
        int ways = marks.goThrough(flock);
        answers.size = 0;
        int bits = 0;
        for (int i = 0; ways > 0 && i < marks.seen; i++) {
            if (((marks.same >> i) & 1) == 1) {
                bits |= 1 << marks.seenRing[i];
                answers.add(marks.least[i]);
            }
        }
        return bits;
    }

    // ---- winds by chance, seasons

    public int chance(int balloon, int n, int p, int v) {
        if (!flock.has(balloon) || n < 1 || n > MOST_CHANCE || p < 0 || p > 10 || v < 0 || v > 2 * EDGE) {
            return NONE;
        }
        if (flock.where[balloon] != FREE) {
            return -2;
        }
        flock.foresee(balloon);
        tellFraction(likely(balloon, n, p, v), power(10, n));
        return 0;
    }

    public int when(int balloon, int p) {
        if (!flock.has(balloon) || p < 0 || p > 10) {
            return NONE;
        }
        if (flock.where[balloon] != FREE) {
            return -2;
        }
        flock.foresee(balloon);
        long most = -1;
        int best = 1;
        for (int n = 1; n <= MOST_CHANCE; n++) {
            long likely = likely(balloon, n, p, flock.rope[balloon]) * power(10, MOST_CHANCE - n);
            if (likely > most) {
                most = likely;
                best = n;
            }
        }
        tellFraction(most, power(10, MOST_CHANCE));
        return best;
    }

    /** By all courses of the wind: of 10 to the power n, how many leave the foreseen one near. */
    private long likely(int balloon, int n, int p, int v) {
        long sum = 0;
        for (int blown = 0; blown < (1 << n); blown++) {
            if (flock.staysNear(balloon, n, blown, v)) {
                int often = Integer.bitCount(blown);
                sum += power(p, often) * power(10 - p, n - often);
            }
        }
        return sum;
    }

    private static long power(int base, int n) {
        long product = 1;
        for (int k = 0; k < n; k++) {
            product *= base;
        }
        return product;
    }

    public int season(int seed, int n) {
        if (n < 1 || n > 60 || flock.size == 0) {
            return NONE;
        }
        dream.become(flock);
        int r = seed;
        int came = 0;
        int lost = 0;
        for (int hour = 0; hour < n; hour++) {
            r = stir(r);
            dream.rain = drawn(r, MOST_RAIN + 1);
            r = stir(r);
            int balloon = drawn(r, dream.size);
            if (setFree(dream, balloon) < 0) {
                untie(dream, balloon);
            }
            dream.passHours(1);
            came += Integer.bitCount(dream.cameDown);
            lost += Integer.bitCount(dream.wentLost);
        }
        tell(came, Integer.bitCount(dream.those(FREE)));
        return lost;
    }

    private static int stir(int r) {
        return r * 1103515245 + 12345;
    }

    private static int drawn(int r, int n) {
        return n > 0 ? (r >>> 16) % n : 0;
    }

    // ---- kept

    public boolean keep(int i) {
        if (i < 0 || i >= MOST_KEPT) {
            return false;
        }
        past.store(flock, i);
        return true;
    }

    public boolean again(int i) {
        if (i < 0 || i >= MOST_KEPT || !past.isStored[i]) {
            return false;
        }
        past.fetch(flock, i);
        past.forgetActs();
        return true;
    }

    public int count(int what) {
        switch (what) {
            case 0: return rings.size;
            case 1: return flock.size;
            case 2: return flock.now;
            case 3: return flock.those(YARD);
            case 4: return flock.those(FREE);
            case 5: return flock.those(MOORED);
            case 6: return flock.those(LOST);
            case 7: return flock.rain;
            case 8: return marks.size;
            case 9: return past.size;
            case 10: return answers.size;
            case 11: return told.size;
            default: return -100;
        }
    }

    public long row(int i) throws NoSuchElementException {
        if (i < 0 || i >= answers.size) {
            throw new NoSuchElementException();
        }
        return answers.numbers[i];
    }

    private void tell(long first, long second) {
        answers.size = 0;
        answers.add(first);
        answers.add(second);
    }

    private void tellFirst(int found, int first, int second) {
        if (found == 1) {
            tell(first, second);
        }
    }

    private void tellFraction(long upper, long lower) {
        long a = lower;
        long b = upper;
        // Euclid's rests halve by every two steps, so 128 are plenty for longs.
        for (int k = 0; k < 128 && b != 0; k++) {
            long rest = a % b;
            a = b;
            b = rest;
        }
        if (a != 0) {
            tell(upper / a, lower / a);
        }
    }

    private static int highBy(int lift) {
        return Math.max(0, Math.min(HEIGHTS - 1, lift / 10));
    }

    private static boolean isOver(int x, int y) {
        return x > EDGE || x < -EDGE || y > EDGE || y < -EDGE;
    }

    /** THE TEXT, and a place in it up to which it has been read. */
    private static final class Told {
        private static final int OVER = -1;
        private final char[] signs = new char[TEXT_SIGNS];
        private int stop;
        private int at;
        int size;

        void append(char c) {
            if (size < TEXT_SIGNS) {
                signs[size] = c;
                size++;
            }
        }

        void open(int most) {
            at = 0;
            stop = Math.min(most, size);
        }

        void close() {
            size = 0;
        }

        /** Every reader stops at the sign that can't stand, so the place tells the fault. */
        int fault() {
            return -1 - at;
        }

        boolean isRead() {
            return at == size;
        }

        int next() {
            return at < stop ? signs[at] : OVER;
        }

        void step() {
            at++;
        }

        boolean take(int c) {
            if (at >= stop || signs[at] != c) {
                return false;
            }
            at++;
            return true;
        }

        boolean isDigit() {
            return at < stop && signs[at] >= '0' && signs[at] <= '9';
        }

        /** The digit here, which is passed, or NONE if it is not one of these. */
        int digit(int least, int most) {
            int digit = at < stop ? signs[at] - '0' : NONE;
            if (digit < least || digit > most) {
                return NONE;
            }
            at++;
            return digit;
        }

        /** A number of 1 or 2 digits, or NONE. */
        int number() {
            int number = digit(0, 9);
            if (number >= 0 && isDigit()) {
                number = number * 10 + digit(0, 9);
            }
            return number;
        }
    }

    /** RINGS, and by each which others are too near, lower and higher at its SIDE (bits). */
    private static final class Tower {
        final int[] height = new int[MOST_RINGS];
        final int[] side = new int[MOST_RINGS];
        private final int[] draft = new int[2 * MOST_RINGS];
        private final int[] near = new int[MOST_RINGS];
        private final int[] lower = new int[MOST_RINGS];
        private final int[] higher = new int[MOST_RINGS];
        int size;

        boolean has(int ring) {
            return ring >= 0 && ring < size;
        }

        int read(Told told) {
            int lines = told.isRead() ? 0 : readLines(told);
            if (lines >= 0) {
                size = lines;
                for (int r = 0; r < size; r++) {
                    height[r] = draft[2 * r];
                    side[r] = draft[2 * r + 1];
                }
                compare();
            }
            return lines;
        }

        private int readLines(Told told) {
            for (int r = 0; r < MOST_RINGS; r++) {
                draft[2 * r] = told.digit(0, HEIGHTS - 1);
                if (draft[2 * r] < 0) {
                    return NONE;
                }
                draft[2 * r + 1] = told.digit(0, 7);
                if (draft[2 * r + 1] < 0) {
                    return NONE;
                }
                if (told.isRead()) {
                    return r + 1;
                }
                if (!told.take(';')) {
                    return NONE;
                }
            }
            return NONE;
        }

        private void compare() {
            for (int r = 0; r < size; r++) {
                near[r] = 0;
                lower[r] = 0;
                higher[r] = 0;
                for (int q = 0; q < size; q++) {
                    if (side[q] == side[r]) {
                        int above = height[q] - height[r];
                        near[r] |= above >= -1 && above <= 1 ? 1 << q : 0;
                        lower[r] |= above < 0 ? 1 << q : 0;
                        higher[r] |= above > 0 ? 1 << q : 0;
                    }
                }
            }
        }

        boolean areNear(int ring, int other) {
            return has(ring) && has(other) && ((near[ring] >> other) & 1) == 1;
        }

        boolean isLower(int ring, int other) {
            return has(ring) && has(other) && ((lower[ring] >> other) & 1) == 1;
        }

        /** RINGS (bits, that one too) at which one may not be, while another one hangs at a RING. */
        int barredBy(int ring, int weight, int own) {
            if (!has(ring)) {
                return 0;
            }
            int barred = near[ring];
            if (weight > own) {
                barred |= lower[ring];
            } else if (weight < own) {
                barred |= higher[ring];
            }
            return barred;
        }
    }

    /** THE WINDS, by HEIGHT. */
    private static final class Winds {
        private static final int[] EAST = {0, 1, 1, 1, 0, -1, -1, -1};
        private static final int[] SOUTH = {-1, -1, 0, 1, 1, 1, 0, -1};
        final int[] whither = new int[HEIGHTS];
        final int[] strong = new int[HEIGHTS];
        final int[] east = new int[HEIGHTS];
        final int[] south = new int[HEIGHTS];
        private final int[] draft = new int[2 * HEIGHTS];

        Winds() {
            Arrays.fill(whither, NONE);
        }

        boolean read(Told told) {
            for (int h = 0; h < HEIGHTS; h++) {
                if (h > 0 && !told.take('/') || !readOne(told, h)) {
                    return false;
                }
            }
            if (!told.isRead()) {
                return false;
            }
            for (int h = 0; h < HEIGHTS; h++) {
                put(h, draft[2 * h], draft[2 * h + 1]);
            }
            return true;
        }

        private boolean readOne(Told told, int h) {
            boolean still = told.take('-');
            draft[2 * h] = still ? NONE : told.digit(0, 7);
            if (still || draft[2 * h] < 0) {
                draft[2 * h + 1] = 0;
                return still;
            }
            draft[2 * h + 1] = told.digit(1, 3);
            return draft[2 * h + 1] > 0;
        }

        private void put(int h, int way, int cells) {
            boolean blows = way >= 0 && way < EAST.length;
            whither[h] = blows ? way : NONE;
            strong[h] = blows ? cells : 0;
            east[h] = blows ? EAST[way] * cells : 0;
            south[h] = blows ? SOUTH[way] * cells : 0;
        }

        int blowing() {
            int found = 0;
            for (int h = 0; h < HEIGHTS; h++) {
                found += strong[h] > 0 ? 1 : 0;
            }
            return found;
        }
    }

    /** THE RULE, as steps for a stack: operands first, then the sign that joins them. */
    private static final class Rule {
        private static final char[] LETTERS = {'g', 's', 'c', 'l', 'o', 'r', 'h', 'b'};
        private static final int FACTS = 8;
        private static final int DEEPEST = 4;
        // Steps below LETTER are numbers, below SIGN letters.
        private static final int LETTER = 1000;
        private static final int SIGN = 2000;
        private static final int NEGATE = 3000;
        private final int[] steps = new int[RULE_SIGNS];
        private final int[] draft = new int[RULE_SIGNS];
        private final int[] stack = new int[RULE_SIGNS];
        private int size;
        private int drafted;

        boolean read(Told told) {
            drafted = 0;
            if (!told.isRead() && !(readCompared(told, 0) && told.isRead())) {
                return false;
            }
            size = drafted;
            System.arraycopy(draft, 0, steps, 0, drafted);
            return true;
        }

        private void write(int step) {
            if (drafted < RULE_SIGNS) {
                draft[drafted] = step;
                drafted++;
            }
        }

        private boolean readCompared(Told told, int depth) {
            if (!readSum(told, depth)) {
                return false;
            }
            int sign = told.next();
            if (sign != '<' && sign != '>' && sign != '=') {
                return true;
            }
            told.step();
            boolean fine = readSum(told, depth);
            write(SIGN + sign);
            return fine;
        }

        private boolean readSum(Told told, int depth) {
            boolean fine = readProduct(told, depth);
            for (int k = 0; fine && k < RULE_SIGNS; k++) {
                int sign = told.next();
                if (sign != '+' && sign != '-') {
                    break;
                }
                told.step();
                fine = readProduct(told, depth);
                write(SIGN + sign);
            }
            return fine;
        }

        private boolean readProduct(Told told, int depth) {
            boolean fine = readSigned(told, depth);
            for (int k = 0; fine && k < RULE_SIGNS; k++) {
                int sign = told.next();
                if (sign != '*' && sign != '/') {
                    break;
                }
                told.step();
                fine = readSigned(told, depth);
                write(SIGN + sign);
            }
            return fine;
        }

        private boolean readSigned(Told told, int depth) {
            int minuses = 0;
            for (int k = 0; k < RULE_SIGNS && told.take('-'); k++) {
                minuses++;
            }
            boolean fine = readThing(told, depth);
            // Two of them leave any int as it was, the least one too.
            if (minuses % 2 == 1) {
                write(NEGATE);
            }
            return fine;
        }

        private boolean readThing(Told told, int depth) {
            if (told.isDigit()) {
                int number = told.digit(0, 9);
                for (int k = 0; k < 2 && told.isDigit(); k++) {
                    number = number * 10 + told.digit(0, 9);
                }
                write(number);
                return true;
            }
            if (depth < DEEPEST && told.take('(')) {
                return readCompared(told, depth + 1) && told.take(')');
            }
            for (int i = 0; i < FACTS; i++) {
                if (told.take(LETTERS[i])) {
                    write(LETTER + i);
                    return true;
                }
            }
            return false;
        }

        /** What it comes to by the facts of a BALLOON, told in the order of LETTERS. */
        int valueBy(int[] facts) {
            if (facts.length < FACTS) {
                return 0;
            }
            if (size == 0) {
                return facts[0] - facts[1] * 5 - facts[2] * 4 - facts[5];
            }
            int top = 0;
            for (int i = 0; i < size; i++) {
                int step = steps[i];
                if (step < SIGN && top < stack.length) {
                    stack[top] = step < LETTER ? step : facts[(step - LETTER) % FACTS];
                    top++;
                } else if (step == NEGATE && top >= 1) {
                    stack[top - 1] = -stack[top - 1];
                } else if (top >= 2) {
                    top--;
                    stack[top - 1] = joined(step - SIGN, stack[top - 1], stack[top]);
                }
            }
            return stack[0];
        }

        private static int joined(int sign, int a, int b) {
            switch (sign) {
                case '<': return a < b ? 1 : 0;
                case '>': return a > b ? 1 : 0;
                case '=': return a == b ? 1 : 0;
                case '+': return a + b;
                case '-': return a - b;
                case '*': return a * b;
                default: return b == 0 ? 0 : a / b;
            }
        }
    }

    /** BALLOONS, NOW and RAIN, as they are or as they would be. */
    private static final class Flock {
        private static final int PACKED_EACH = 7;
        private static final int PACKED = MOST_BALLOONS * PACKED_EACH + 1;
        private final Tower rings;
        private final Winds air;
        private final Rule lifting;
        private final int[] facts = new int[Rule.FACTS];
        private final int[] foreseen = new int[MOST_CHANCE];
        final int[] gas = new int[MOST_BALLOONS];
        final int[] sacks = new int[MOST_BALLOONS];
        final int[] cargo = new int[MOST_BALLOONS];
        final int[] rope = new int[MOST_BALLOONS];
        final int[] leak = new int[MOST_BALLOONS];
        final int[] where = new int[MOST_BALLOONS];
        final int[] ring = new int[MOST_BALLOONS];
        final int[] x = new int[MOST_BALLOONS];
        final int[] y = new int[MOST_BALLOONS];
        int size;
        int now;
        int rain;
        int cameDown;
        int wentLost;

        Flock(Tower rings, Winds air, Rule lifting) {
            this.rings = rings;
            this.air = air;
            this.lifting = lifting;
        }

        void leave() {
            size = 0;
            now = 0;
        }

        boolean has(int b) {
            return b >= 0 && b < size;
        }

        boolean areAll(int those) {
            return (those & ~((1 << size) - 1)) == 0;
        }

        /** Lines are read behind the last BALLOON, where nobody looks until they count. */
        int read(Told told) {
            int lines = told.isRead() ? 0 : readLines(told);
            if (lines > 0) {
                size += lines;
            }
            return lines;
        }

        private int readLines(Told told) {
            for (int b = size; b < MOST_BALLOONS; b++) {
                if (!readLine(told, b)) {
                    return NONE;
                }
                if (told.isRead()) {
                    return b + 1 - size;
                }
                if (!told.take(';')) {
                    return NONE;
                }
            }
            return NONE;
        }

        private boolean readLine(Told told, int b) {
            gas[b] = told.number();
            if (gas[b] < 0 || !told.take(',')) {
                return false;
            }
            sacks[b] = told.digit(0, MOST_SACKS);
            if (sacks[b] < 0) {
                return false;
            }
            cargo[b] = told.digit(0, MOST_CARGO);
            if (cargo[b] < 0) {
                return false;
            }
            rope[b] = told.digit(1, MOST_ROPE);
            if (rope[b] < 0) {
                return false;
            }
            leak[b] = told.digit(0, 9);
            where[b] = YARD;
            return leak[b] >= 0;
        }

        int weightOf(int b) {
            return has(b) ? 5 * sacks[b] + 4 * cargo[b] : 0;
        }

        int liftOf(int b) {
            return has(b) ? liftAs(b, gas[b], sacks[b], 0) : 0;
        }

        /** LIFT of one that had such GAS and SACKS in some HOURS. */
        int liftAs(int b, int itsGas, int itsSacks, int later) {
            if (!has(b)) {
                return 0;
            }
            facts[0] = itsGas;
            facts[1] = itsSacks;
            facts[2] = cargo[b];
            facts[3] = leak[b];
            facts[4] = rope[b];
            facts[5] = rain;
            facts[6] = (now + later) % 24;
            facts[7] = b;
            return lifting.valueBy(facts);
        }

        int ringOf(int b) {
            return has(b) && where[b] == MOORED ? ring[b] : NONE;
        }

        int cellOf(int b) {
            return has(b) && where[b] == FREE ? WIDTH * (y[b] + EDGE) + x[b] + EDGE : NONE;
        }

        int farness(int b) {
            return has(b) ? Math.abs(x[b]) + Math.abs(y[b]) : 0;
        }

        boolean isUp(int b) {
            return has(b) && (where[b] == FREE || where[b] == MOORED);
        }

        boolean isAtHand(int b) {
            return has(b) && (where[b] == YARD || where[b] == MOORED);
        }

        int guestAt(int r) {
            for (int b = 0; b < size; b++) {
                if (where[b] == MOORED && ring[b] == r) {
                    return b;
                }
            }
            return NONE;
        }

        int those(int place) {
            int bits = 0;
            for (int b = 0; b < size; b++) {
                bits |= where[b] == place ? 1 << b : 0;
            }
            return bits;
        }

        boolean doTouch(int a, int b) {
            return a != b && areMoored(a, b) && rings.areNear(ring[a], ring[b]);
        }

        boolean doesBreach(int upper, int under) {
            return areMoored(upper, under) && rings.isLower(ring[upper], ring[under])
                    && weightOf(upper) > weightOf(under);
        }

        private boolean areMoored(int a, int b) {
            return has(a) && has(b) && where[a] == MOORED && where[b] == MOORED;
        }

        void setLoose(int b) {
            if (has(b)) {
                where[b] = FREE;
                x[b] = 0;
                y[b] = 0;
            }
        }

        /** NOW behind n HOURS. */
        int passHours(int n) {
            cameDown = 0;
            wentLost = 0;
            for (int hour = 0; hour < n; hour++) {
                driftAll();
                leakAll();
                tearAll();
                now++;
                sinkAll();
            }
            return now;
        }

        private void driftAll() {
            for (int b = 0; b < size; b++) {
                if (where[b] == FREE) {
                    int high = highBy(liftOf(b));
                    x[b] += air.east[high];
                    y[b] += air.south[high];
                    if (isOver(x[b], y[b])) {
                        lose(b);
                    }
                }
            }
        }

        private void lose(int b) {
            where[b] = LOST;
            wentLost |= 1 << b;
        }

        private void leakAll() {
            for (int b = 0; b < size; b++) {
                if (isUp(b)) {
                    gas[b] = Math.max(0, gas[b] - leak[b]);
                }
            }
        }

        private void tearAll() {
            for (int a = 0; a < size; a++) {
                for (int b = 0; b < size; b++) {
                    if (doTouch(a, b)) {
                        gas[a] = Math.max(0, gas[a] - 1);
                    }
                }
            }
        }

        private void sinkAll() {
            for (int b = 0; b < size; b++) {
                if (isUp(b) && liftOf(b) < 0) {
                    if (where[b] == FREE && farness(b) > YARD_REACH) {
                        lose(b);
                    } else {
                        where[b] = YARD;
                        cameDown |= 1 << b;
                    }
                }
            }
        }

        /** HIGHS of the next HOURS, if it neither leaks nor comes down. */
        void foresee(int b) {
            if (has(b)) {
                for (int t = 0; t < MOST_CHANCE; t++) {
                    foreseen[t] = highBy(liftAs(b, gas[b], sacks[b], t));
                }
            }
        }

        /** Whether the foreseen one is near behind n HOURS, if the wind blew in some (bits). */
        boolean staysNear(int b, int n, int blown, int v) {
            if (!has(b)) {
                return false;
            }
            int itsX = x[b];
            int itsY = y[b];
            for (int t = 0; t < n && t < MOST_CHANCE; t++) {
                if (((blown >> t) & 1) == 1) {
                    itsX += air.east[foreseen[t]];
                    itsY += air.south[foreseen[t]];
                }
                if (isOver(itsX, itsY)) {
                    return false;
                }
            }
            return Math.abs(itsX) + Math.abs(itsY) <= v;
        }

        void become(Flock other) {
            size = other.size;
            now = other.now;
            rain = other.rain;
            for (int b = 0; b < size; b++) {
                gas[b] = other.gas[b];
                sacks[b] = other.sacks[b];
                cargo[b] = other.cargo[b];
                rope[b] = other.rope[b];
                leak[b] = other.leak[b];
                where[b] = other.where[b];
                ring[b] = other.ring[b];
                x[b] = other.x[b];
                y[b] = other.y[b];
            }
        }

        void pack(int[] store, int from) {
            if (from < 0 || from > store.length - PACKED) {
                return;
            }
            int at = from;
            for (int b = 0; b < MOST_BALLOONS; b++) {
                store[at] = gas[b];
                store[at + 1] = sacks[b];
                store[at + 2] = cargo[b];
                store[at + 3] = where[b];
                store[at + 4] = ring[b];
                store[at + 5] = x[b];
                store[at + 6] = y[b];
                at += PACKED_EACH;
            }
            store[at] = now;
        }

        void unpack(int[] store, int from) {
            if (from < 0 || from > store.length - PACKED) {
                return;
            }
            int at = from;
            for (int b = 0; b < MOST_BALLOONS; b++) {
                gas[b] = store[at];
                sacks[b] = store[at + 1];
                cargo[b] = store[at + 2];
                where[b] = store[at + 3];
                ring[b] = store[at + 4];
                x[b] = store[at + 5];
                y[b] = store[at + 6];
                at += PACKED_EACH;
            }
            now = store[at];
        }
    }

    /** What can be undone, and what is kept. */
    private static final class Past {
        // One slot more than can be undone: what is noted ahead of an act overwrites nothing.
        private static final int SLOTS = MOST_UNDONE + 1;
        private final int[] ahead = new int[SLOTS * Flock.PACKED];
        private final int[] stored = new int[MOST_KEPT * Flock.PACKED];
        final boolean[] isStored = new boolean[MOST_KEPT];
        private int slot;
        int size;

        void note(Flock flock) {
            flock.pack(ahead, slot * Flock.PACKED);
        }

        void hold() {
            slot = (slot + 1) % SLOTS;
            size = Math.min(size + 1, MOST_UNDONE);
        }

        boolean takeBack(Flock flock) {
            if (size == 0) {
                return false;
            }
            slot = (slot + SLOTS - 1) % SLOTS;
            size--;
            flock.unpack(ahead, slot * Flock.PACKED);
            return true;
        }

        void forgetActs() {
            size = 0;
        }

        void forgetKept() {
            for (int i = 0; i < MOST_KEPT; i++) {
                isStored[i] = false;
            }
        }

        void store(Flock flock, int i) {
            if (i >= 0 && i < MOST_KEPT) {
                flock.pack(stored, i * Flock.PACKED);
                isStored[i] = true;
            }
        }

        void fetch(Flock flock, int i) {
            if (i >= 0 && i < MOST_KEPT && isStored[i]) {
                flock.unpack(stored, i * Flock.PACKED);
            }
        }
    }

    /** The ROW. */
    private static final class Answers {
        private static final int MOST = 8;
        final long[] numbers = new long[MOST];
        int size;

        void add(long number) {
            if (size < MOST) {
                numbers[size] = number;
                size++;
            }
        }
    }

    /** ACTS of A DAY, as they were told. */
    private static final class Acts {
        final int[] kind = new int[MOST_ACTS];
        final int[] first = new int[MOST_ACTS];
        final int[] second = new int[MOST_ACTS];
        int size;

        boolean read(Told told) {
            size = 0;
            boolean fine = told.isRead();
            for (int i = 0; !fine && i < MOST_ACTS; i++) {
                if (!readOne(told, i)) {
                    return false;
                }
                size = i + 1;
                fine = told.isRead();
                if (!fine && !told.take(';')) {
                    return false;
                }
            }
            return fine;
        }

        private boolean readOne(Told told, int i) {
            kind[i] = told.next();
            switch (kind[i]) {
                case 'l':
                case 'c':
                    told.step();
                    return readFirst(told, i);
                case 'm':
                    told.step();
                    return readFirst(told, i) && readSecond(told, i);
                case 's':
                    told.step();
                    return readFirst(told, i) && readChange(told, i);
                case 'h':
                    told.step();
                    first[i] = told.number();
                    return first[i] >= 0;
                default:
                    return false;
            }
        }

        private boolean readFirst(Told told, int i) {
            first[i] = told.digit(0, 9);
            return first[i] >= 0;
        }

        private boolean readSecond(Told told, int i) {
            second[i] = told.digit(0, 9);
            return second[i] >= 0;
        }

        private boolean readChange(Told told, int i) {
            boolean fewer = told.take('-');
            if (!fewer && !told.take('+') || !readSecond(told, i)) {
                return false;
            }
            second[i] = fewer ? -second[i] : second[i];
            return true;
        }
    }

    /** Ways to hang chosen BALLOONS at RINGS by THE LAW, so that none touch. */
    private static final class Berths {
        private final Tower rings;
        private final Flock flock;
        private final int[] weight = new int[MOST_BALLOONS];
        private final int[] place = new int[MOST_BALLOONS];
        final int[] least = new int[MOST_BALLOONS];
        private boolean found;
        int size;

        Berths(Tower rings, Flock flock) {
            this.rings = rings;
            this.flock = flock;
        }

        void choose(int those) {
            size = 0;
            for (int b = 0; b < flock.size; b++) {
                if (((those >> b) & 1) == 1) {
                    weight[size] = flock.weightOf(b);
                    size++;
                }
            }
        }

        int waysAll() {
            found = false;
            return waysFrom(0, false);
        }

        boolean canAll() {
            found = false;
            return waysFrom(0, true) > 0;
        }

        /** Rings are tried in their order, so the first way found is the least row. */
        private int waysFrom(int i, boolean oneWillDo) {
            if (i >= size) {
                if (!found) {
                    System.arraycopy(place, 0, least, 0, size);
                    found = true;
                }
                return 1;
            }
            int open = openTo(i);
            if (found && i == size - 1) {
                return Integer.bitCount(open);
            }
            int ways = 0;
            for (int r = 0; r < rings.size && !(oneWillDo && ways > 0); r++) {
                if (((open >> r) & 1) == 1) {
                    ways += waysWith(i, r, oneWillDo);
                }
            }
            return ways;
        }

        private int waysWith(int i, int ring, boolean oneWillDo) {
            place[i] = ring;
            return waysFrom(i + 1, oneWillDo);
        }

        private int openTo(int i) {
            int open = (1 << rings.size) - 1;
            for (int j = 0; j < i; j++) {
                open &= ~rings.barredBy(place[j], weight[j], weight[i]);
            }
            return open;
        }
    }

    /**
     * Landings of a FREE one. LIFT depends on the HOUR and on how many SACKS are gone alone,
     * not on the way there, so it is reckoned once for all ways and RINGS.
     */
    private static final class Landing {
        private static final int TIMES = MOST_LANDING + 1;
        private static final int DROPS = MOST_SACKS + 1;
        private static final int WORDS = 6;
        private final Flock flock;
        private final Winds air;
        private final int[] lift = new int[TIMES * DROPS];
        private final boolean[] isNear = new boolean[TIMES * DROPS];
        private final long[] seen = new long[TIMES * DROPS * WORDS];
        final int[] drops = new int[TIMES];
        private int balloon;
        private int within;
        private int most;
        private int rope;
        int sacks;
        int hours;

        Landing(Flock flock, Winds air) {
            this.flock = flock;
            this.air = air;
        }

        /** Finds at which times, with how many SACKS gone, it can be FREE and within its ROPE. */
        void survey(int one, int n) {
            if (!flock.has(one) || n < 0 || n > MOST_LANDING) {
                return;
            }
            balloon = one;
            within = n;
            most = flock.sacks[one];
            rope = flock.rope[one];
            for (int t = 0; t <= n; t++) {
                int gas = Math.max(0, flock.gas[one] - t * flock.leak[one]);
                for (int k = 0; k <= most; k++) {
                    lift[t * DROPS + k] = flock.liftAs(one, gas, most - k, t);
                }
            }
            Arrays.fill(seen, 0L);
            for (int i = 0; i < isNear.length; i++) {
                isNear[i] = false;
            }
            explore(0, 0, flock.x[one], flock.y[one]);
        }

        /** At a time and cell, with so many SACKS gone ahead of that time. */
        private void explore(int t, int gone, int x, int y) {
            if (t > within || isOver(x, y) || wasSeen(t, gone, x, y)) {
                return;
            }
            if (Math.abs(x) + Math.abs(y) <= rope) {
                isNear[t * DROPS + gone] = true;
            }
            for (int k = gone; t < within && k <= most; k++) {
                exploreHour(t, k, x, y);
            }
        }

        private void exploreHour(int t, int k, int x, int y) {
            if (lift[(t + 1) * DROPS + k] >= 0) {
                int high = highBy(lift[t * DROPS + k]);
                explore(t + 1, k, x + air.east[high], y + air.south[high]);
            }
        }

        private boolean wasSeen(int t, int gone, int x, int y) {
            int cell = WIDTH * (y + EDGE) + x + EDGE;
            int word = (t * DROPS + gone) * WORDS + (cell >> 6);
            if (word < 0 || word >= seen.length) {
                return true;
            }
            long bit = 1L << (cell & 63);
            boolean was = (seen[word] & bit) != 0;
            seen[word] |= bit;
            return was;
        }

        /** The fewest SACKS, of these the fewest HOURS, for a RING of that HEIGHT. */
        boolean plan(int height) {
            for (int k = 0; k <= most; k++) {
                for (int t = 0; t <= within; t++) {
                    if (canBeNear(t, k) && Math.abs(highBy(lift[t * DROPS + k]) - height) <= 1) {
                        sacks = k;
                        hours = t;
                        return true;
                    }
                }
            }
            return false;
        }

        private boolean canBeNear(int t, int gone) {
            for (int k = 0; k <= gone; k++) {
                if (isNear[t * DROPS + k]) {
                    return true;
                }
            }
            return false;
        }

        boolean beats(int otherSacks, int otherHours) {
            return sacks < otherSacks || sacks == otherSacks && hours < otherHours;
        }

        /** The least row of drops that keeps to the plan. */
        boolean retrace() {
            return flock.has(balloon) && retraceFrom(0, 0, flock.x[balloon], flock.y[balloon]);
        }

        private boolean retraceFrom(int t, int gone, int x, int y) {
            if (t > within || isOver(x, y)) {
                return false;
            }
            if (t == hours) {
                drops[t] = sacks - gone;
                return Math.abs(x) + Math.abs(y) <= rope;
            }
            for (int k = gone; k <= sacks; k++) {
                drops[t] = k - gone;
                if (retraceHour(t, k, x, y)) {
                    return true;
                }
            }
            return false;
        }

        private boolean retraceHour(int t, int k, int x, int y) {
            int high = highBy(lift[t * DROPS + k]);
            return lift[(t + 1) * DROPS + k] >= 0
                    && retraceFrom(t + 1, k, x + air.east[high], y + air.south[high]);
        }
    }

    /** Marks at RINGS, and the ways in which BALLOONS can have lain there. */
    private static final class Marks {
        private final int[] ring = new int[MOST_MARKS];
        private final int[] what = new int[MOST_MARKS];
        private final int[] value = new int[MOST_MARKS];
        final int[] seenRing = new int[MOST_RINGS];
        private final int[] fits = new int[MOST_RINGS];
        private final int[] who = new int[MOST_RINGS];
        final int[] least = new int[MOST_RINGS];
        int size;
        int seen;
        int same;
        private int found;

        void add(int itsRing, int itsWhat, int v) {
            if (size < MOST_MARKS) {
                ring[size] = itsRing;
                what[size] = itsWhat;
                value[size] = v;
                size++;
            }
        }

        int fitting(Flock flock, int r) {
            int bits = 0;
            for (int b = 0; b < flock.size; b++) {
                boolean fine = true;
                for (int i = 0; i < size; i++) {
                    fine = fine && (ring[i] != r || allows(i, flock, b));
                }
                bits |= fine ? 1 << b : 0;
            }
            return bits;
        }

        private boolean allows(int i, Flock flock, int b) {
            switch (what[i]) {
                case 0: return flock.rope[b] >= value[i];
                case 1: return flock.weightOf(b) <= value[i];
                default: return b != value[i];
            }
        }

        private boolean isSeen(int r) {
            for (int i = 0; i < size; i++) {
                if (ring[i] == r) {
                    return true;
                }
            }
            return false;
        }

        /** All ways: how many; the least one, and places (bits) where all are the same, stay noted. */
        int goThrough(Flock flock) {
            seen = 0;
            for (int r = 0; r < MOST_RINGS; r++) {
                if (isSeen(r)) {
                    seenRing[seen] = r;
                    fits[seen] = fitting(flock, r);
                    seen++;
                }
            }
            found = 0;
            same = (1 << seen) - 1;
            goFrom(0, 0);
            return found;
        }

        private void goFrom(int i, int taken) {
            if (i >= seen) {
                noteWay();
                return;
            }
            int open = fits[i] & ~taken;
            for (int b = 0; b < MOST_BALLOONS; b++) {
                if (((open >> b) & 1) == 1) {
                    goWith(i, b, taken);
                }
            }
        }

        private void goWith(int i, int b, int taken) {
            who[i] = b;
            goFrom(i + 1, taken | 1 << b);
        }

        private void noteWay() {
            found++;
            for (int i = 0; i < seen; i++) {
                if (found == 1) {
                    least[i] = who[i];
                } else if (least[i] != who[i]) {
                    same &= ~(1 << i);
                }
            }
        }
    }
}
