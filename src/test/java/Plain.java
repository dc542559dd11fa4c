import java.math.BigInteger;
import java.util.ArrayDeque;
import java.util.ArrayList;
import java.util.Arrays;
import java.util.Deque;
import java.util.List;
import java.util.regex.Matcher;
import java.util.regex.Pattern;

/**
 * The document once more, written by other means (regular expressions, brute force, big numbers),
 * for RandomTest to hold the program against. A call that throws answers THROWS here.
 */
final class Plain {
    static final long THROWS = Long.MIN_VALUE;
    private static final String RING = "[0-9][0-7]";
    private static final String LINE = "[0-9]{1,2},[0-9][0-9][1-9][0-9]";
    private static final String WIND = "(-|[0-7][1-3])";
    private static final String ACT = "(l[0-9]|m[0-9][0-9]|c[0-9]|s[0-9][+-][0-9]|h[0-9]{1,2})";

    /** A part of THE RULE. */
    interface Part {
        int of(int[] facts);
    }

    private static final class Balloon {
        int gas;
        int sacks;
        int cargo;
        int rope;
        int leak;
        int where;
        int ring;
        int x;
        int y;

        Balloon copy() {
            Balloon c = new Balloon();
            c.gas = gas;
            c.sacks = sacks;
            c.cargo = cargo;
            c.rope = rope;
            c.leak = leak;
            c.where = where;
            c.ring = ring;
            c.x = x;
            c.y = y;
            return c;
        }
    }

    /** What can be undone, kept, or dreamt of. */
    private static final class State {
        final List<Balloon> all = new ArrayList<>();
        int now;

        State copy() {
            State c = new State();
            for (Balloon b : all) {
                c.all.add(b.copy());
            }
            c.now = now;
            return c;
        }
    }

    private String text = "";
    private List<int[]> rings = new ArrayList<>();
    private State state = new State();
    private int[][] winds = new int[10][];
    private String rule = "";
    private Part lifting = null;
    private int rain = 0;
    private final Deque<State> past = new ArrayDeque<>();
    private final State[] kept = new State[3];
    private final List<int[]> marks = new ArrayList<>();
    private List<Long> row = new ArrayList<>();

    long[] row() {
        return row.stream().mapToLong(Long::longValue).toArray();
    }

    private void tell(long... numbers) {
        row = new ArrayList<>();
        for (long n : numbers) {
            row.add(n);
        }
    }

    // ---- texts

    void text(String t) {
        text = t;
    }

    int textSize() {
        return text.length();
    }

    private String takeText() {
        String t = text;
        text = "";
        return t;
    }

    /** Whether the text could be the beginning of something that fits. */
    private static boolean canGoOn(String pattern, String t) {
        Matcher m = Pattern.compile(pattern).matcher(t);
        return m.matches() || m.hitEnd();
    }

    /** 0 if the text fits, else -1 - p. */
    private static int judge(String whole, String goingOn, String t, int most) {
        String first = t.length() > most ? t.substring(0, most) : t;
        for (int p = 0; p < first.length(); p++) {
            if (!canGoOn(goingOn, first.substring(0, p + 1))) {
                return -1 - p;
            }
        }
        return t.length() <= most && t.matches(whole) ? 0 : -1 - first.length();
    }

    int tower() {
        String t = takeText();
        if (!t.isEmpty()) {
            String whole = RING + "(;" + RING + "){0,7}";
            int fault = judge(whole, whole + ";?", t, 23);
            if (fault < 0) {
                return fault;
            }
        }
        rings = new ArrayList<>();
        for (String r : t.isEmpty() ? new String[0] : t.split(";")) {
            rings.add(new int[] {r.charAt(0) - '0', r.charAt(1) - '0'});
        }
        state = new State();
        marks.clear();
        past.clear();
        Arrays.fill(kept, null);
        return rings.size();
    }

    int balloons() {
        String t = takeText();
        if (t.isEmpty()) {
            return 0;
        }
        int room = 6 - state.all.size();
        if (room == 0) {
            return -1;
        }
        String whole = LINE + "(;" + LINE + "){0," + (room - 1) + "}";
        int fault = judge(whole, whole + ";?", t, 47);
        if (fault < 0) {
            return fault;
        }
        String[] lines = t.split(";");
        for (String line : lines) {
            String[] parts = line.split(",");
            Balloon b = new Balloon();
            b.gas = Integer.parseInt(parts[0]);
            b.sacks = parts[1].charAt(0) - '0';
            b.cargo = parts[1].charAt(1) - '0';
            b.rope = parts[1].charAt(2) - '0';
            b.leak = parts[1].charAt(3) - '0';
            state.all.add(b);
        }
        past.clear();
        Arrays.fill(kept, null);
        return lines.length;
    }

    int winds() {
        String t = takeText();
        String whole = WIND + "(/" + WIND + "){9}";
        int fault = judge(whole, whole, t, 29);
        if (fault < 0) {
            return fault;
        }
        String[] told = t.split("/");
        int blowing = 0;
        for (int h = 0; h < 10; h++) {
            winds[h] = told[h].equals("-") ? null : new int[] {told[h].charAt(0) - '0', told[h].charAt(1) - '0'};
            blowing += winds[h] == null ? 0 : 1;
        }
        return blowing;
    }

    int rule() {
        String t = takeText();
        int fault = judgeRule(t);
        if (fault < 0) {
            return fault;
        }
        rule = t;
        lifting = t.isEmpty() ? null : parse(t);
        return 0;
    }

    /** Sign by sign: what is open, whether a comparison stands at each depth, what came last. */
    private static int judgeRule(String t) {
        boolean[] compared = new boolean[8];
        int depth = 0;
        int digits = 0;
        boolean behindThing = false;
        for (int p = 0; p < Math.min(40, t.length()); p++) {
            char c = t.charAt(p);
            boolean fine;
            if (c >= '0' && c <= '9') {
                fine = behindThing ? digits > 0 && digits < 3 : true;
                digits = behindThing ? digits + 1 : 1;
                behindThing = true;
            } else if ("gsclorhb".indexOf(c) >= 0) {
                fine = !behindThing;
                behindThing = true;
                digits = 0;
            } else if (c == '(') {
                fine = !behindThing && depth < 4;
                depth++;
                compared[Math.min(depth, 7)] = false;
            } else if (c == ')') {
                fine = behindThing && depth > 0;
                depth--;
                digits = 0;
            } else if (c == '-') {
                fine = true;
                behindThing = false;
            } else if (c == '+' || c == '*' || c == '/') {
                fine = behindThing;
                behindThing = false;
            } else if (c == '<' || c == '>' || c == '=') {
                fine = behindThing && !compared[depth];
                compared[depth] = true;
                behindThing = false;
            } else {
                fine = false;
            }
            if (!fine) {
                return -1 - p;
            }
        }
        if (t.length() > 40) {
            return -41;
        }
        return t.isEmpty() || depth == 0 && behindThing ? 0 : -1 - t.length();
    }

    /** Splits at the sign that binds least, the last of them. */
    private static Part parse(String t) {
        for (String signs : new String[] {"<>=", "+-", "*/"}) {
            int depth = 0;
            for (int i = t.length() - 1; i > 0; i--) {
                char c = t.charAt(i);
                depth += c == ')' ? 1 : c == '(' ? -1 : 0;
                char ahead = t.charAt(i - 1);
                boolean joins = Character.isLetterOrDigit(ahead) || ahead == ')';
                if (depth == 0 && joins && signs.indexOf(c) >= 0) {
                    return joined(c, parse(t.substring(0, i)), parse(t.substring(i + 1)));
                }
            }
        }
        if (t.charAt(0) == '-') {
            Part rest = parse(t.substring(1));
            return f -> -rest.of(f);
        }
        if (t.charAt(0) == '(') {
            return parse(t.substring(1, t.length() - 1));
        }
        if (Character.isDigit(t.charAt(0))) {
            int number = Integer.parseInt(t);
            return f -> number;
        }
        int letter = "gsclorhb".indexOf(t.charAt(0));
        return f -> f[letter];
    }

    private static Part joined(char sign, Part a, Part b) {
        switch (sign) {
            case '<': return f -> a.of(f) < b.of(f) ? 1 : 0;
            case '>': return f -> a.of(f) > b.of(f) ? 1 : 0;
            case '=': return f -> a.of(f) == b.of(f) ? 1 : 0;
            case '+': return f -> a.of(f) + b.of(f);
            case '-': return f -> a.of(f) - b.of(f);
            case '*': return f -> a.of(f) * b.of(f);
            default: return f -> b.of(f) == 0 ? 0 : a.of(f) / b.of(f);
        }
    }

    // ---- looks

    private boolean has(int b) {
        return b >= 0 && b < state.all.size();
    }

    private boolean hasRing(int r) {
        return r >= 0 && r < rings.size();
    }

    private int guest(int r) {
        for (int b = 0; b < state.all.size(); b++) {
            if (state.all.get(b).where == 2 && state.all.get(b).ring == r) {
                return b;
            }
        }
        return -1;
    }

    long ring(int r, int what) {
        if (!hasRing(r) || what < 0 || what > 4) {
            return THROWS;
        }
        int[] wind = winds[rings.get(r)[0]];
        switch (what) {
            case 0: return rings.get(r)[0];
            case 1: return rings.get(r)[1];
            case 2: return guest(r);
            case 3: return wind == null ? -1 : wind[0];
            default: return wind == null ? 0 : wind[1];
        }
    }

    private int weight(Balloon b) {
        return b.sacks * 5 + b.cargo * 4;
    }

    private int lift(State s, int b, int rainThen) {
        Balloon o = s.all.get(b);
        int[] facts = {o.gas, o.sacks, o.cargo, o.leak, o.rope, rainThen, s.now % 24, b};
        return lifting == null ? o.gas - weight(o) - rainThen : lifting.of(facts);
    }

    private int high(State s, int b, int rainThen) {
        int h = lift(s, b, rainThen) / 10;
        return h < 0 ? 0 : h > 9 ? 9 : h;
    }

    private int cell(Balloon o) {
        return o.where == 1 ? 19 * (o.y + 9) + o.x + 9 : -1;
    }

    long balloon(int b, int what) {
        if (!has(b) || what < 0 || what > 9) {
            return THROWS;
        }
        Balloon o = state.all.get(b);
        int[] all = {o.gas, o.sacks, o.cargo, o.rope, o.leak, weight(o), high(state, b, rain), o.where,
            o.where == 2 ? o.ring : -1, cell(o)};
        return all[what];
    }

    long lift(int b) {
        return has(b) ? lift(state, b, rain) : THROWS;
    }

    int rain(int v) {
        if (v < 0 || v > 9) {
            return -1;
        }
        int was = rain;
        rain = v;
        return was;
    }

    int sheet(int kind, int n, int f, int step) {
        if (kind < 0 || kind > 3 || n > 6) {
            return -1;
        }
        if (kind < 3 && n < 0) {
            return -2;
        }
        long sum = 0;
        for (int b = 0; b < state.all.size(); b++) {
            int entry = f;
            for (int k = 0; k < b; k++) {
                entry += step;
            }
            int cut = kind == 0 ? (byte) entry : kind == 1 ? (short) entry : entry;
            int gas = kind < 3 && b < n ? Math.min(99, Math.max(0, cut)) : 0;
            state.all.get(b).gas = gas;
            sum += gas;
        }
        return kind == 3 ? -3 : (int) sum;
    }

    // ---- acts

    private int done(State ahead, int answer) {
        if (answer >= 0) {
            past.push(ahead);
            while (past.size() > 15) {
                past.removeLast();
            }
        }
        return answer;
    }

    int launch(int b) {
        return done(state.copy(), rawLaunch(state, b, rain));
    }

    private int rawLaunch(State s, int b, int rainThen) {
        if (b < 0 || b >= s.all.size()) {
            return -1;
        }
        Balloon o = s.all.get(b);
        if (o.where != 0) {
            return -2;
        }
        if (lift(s, b, rainThen) < 0) {
            return -3;
        }
        o.where = 1;
        o.x = 0;
        o.y = 0;
        return high(s, b, rainThen);
    }

    int moor(int b, int r) {
        return done(state.copy(), rawMoor(b, r));
    }

    private int rawMoor(int b, int r) {
        if (!has(b) || !hasRing(r)) {
            return -1;
        }
        Balloon o = state.all.get(b);
        if (o.where != 1) {
            return -2;
        }
        if (Math.abs(o.x) + Math.abs(o.y) > o.rope) {
            return -3;
        }
        if (Math.abs(high(state, b, rain) - rings.get(r)[0]) > 1) {
            return -4;
        }
        if (guest(r) >= 0) {
            return -5;
        }
        o.where = 2;
        o.ring = r;
        return rings.get(r)[0];
    }

    int cast(int b) {
        return done(state.copy(), rawCast(state, b));
    }

    private int rawCast(State s, int b) {
        if (b < 0 || b >= s.all.size()) {
            return -1;
        }
        Balloon o = s.all.get(b);
        if (o.where != 2) {
            return -2;
        }
        o.where = 1;
        o.x = 0;
        o.y = 0;
        return o.ring;
    }

    int sacks(int b, int n) {
        return done(state.copy(), rawSacks(b, n));
    }

    private int rawSacks(int b, int n) {
        if (!has(b) || n == 0) {
            return -1;
        }
        Balloon o = state.all.get(b);
        if (n > 0 ? o.where == 1 || o.where == 3 : o.where == 3) {
            return -2;
        }
        long then = (long) o.sacks + n;
        if (then < 0 || then > 9) {
            return -3;
        }
        o.sacks = (int) then;
        return o.sacks;
    }

    int cargo(int b, int v) {
        if (!has(b) || v < 0 || v > 9) {
            return -1;
        }
        Balloon o = state.all.get(b);
        if (o.where == 1 || o.where == 3) {
            return -2;
        }
        State ahead = state.copy();
        int was = o.cargo;
        o.cargo = v;
        return done(ahead, was);
    }

    int fill(int b, int v) {
        if (!has(b) || v < 0 || v > 99) {
            return -1;
        }
        Balloon o = state.all.get(b);
        if (o.where != 0) {
            return -2;
        }
        State ahead = state.copy();
        int was = o.gas;
        o.gas = v;
        return done(ahead, was);
    }

    private boolean touch(State s, int a, int b) {
        Balloon p = s.all.get(a);
        Balloon q = s.all.get(b);
        return a != b && p.where == 2 && q.where == 2 && ringsTouch(p.ring, q.ring);
    }

    private boolean ringsTouch(int p, int q) {
        return rings.get(p)[1] == rings.get(q)[1] && Math.abs(rings.get(p)[0] - rings.get(q)[0]) <= 1;
    }

    /** Bits that came down, bits that were lost. */
    private int[] hour(State s, int rainThen) {
        int[] fates = new int[2];
        int n = s.all.size();
        int[] highs = new int[n];
        for (int b = 0; b < n; b++) {
            highs[b] = high(s, b, rainThen);
        }
        for (int b = 0; b < n; b++) {
            Balloon o = s.all.get(b);
            if (o.where == 1) {
                int[] to = blown(o.x, o.y, highs[b]);
                o.x = to[0];
                o.y = to[1];
                if (Math.max(Math.abs(o.x), Math.abs(o.y)) > 9) {
                    o.where = 3;
                    fates[1] |= 1 << b;
                }
            }
        }
        int[] less = new int[n];
        for (int b = 0; b < n; b++) {
            for (int a = 0; a < n; a++) {
                less[b] += touch(s, a, b) ? 1 : 0;
            }
        }
        for (int b = 0; b < n; b++) {
            Balloon o = s.all.get(b);
            if (o.where == 1 || o.where == 2) {
                o.gas = Math.max(0, o.gas - o.leak);
                o.gas = Math.max(0, o.gas - less[b]);
            }
        }
        s.now++;
        for (int b = 0; b < n; b++) {
            Balloon o = s.all.get(b);
            if ((o.where == 1 || o.where == 2) && lift(s, b, rainThen) < 0) {
                boolean home = o.where == 2 || Math.abs(o.x) + Math.abs(o.y) <= 2;
                o.where = home ? 0 : 3;
                fates[home ? 0 : 1] |= 1 << b;
            }
        }
        return fates;
    }

    private int[] blown(int x, int y, int high) {
        int[] wind = winds[high];
        if (wind == null) {
            return new int[] {x, y};
        }
        int east = wind[0] >= 1 && wind[0] <= 3 ? 1 : wind[0] >= 5 ? -1 : 0;
        int south = wind[0] >= 3 && wind[0] <= 5 ? 1 : wind[0] == 2 || wind[0] == 6 ? 0 : -1;
        return new int[] {x + east * wind[1], y + south * wind[1]};
    }

    int hours(int n) {
        if (n < 0 || n > 48) {
            return -1;
        }
        State ahead = state.copy();
        int[] sum = new int[2];
        for (int k = 0; k < n; k++) {
            int[] fates = hour(state, rain);
            sum[0] |= fates[0];
            sum[1] |= fates[1];
        }
        tell(sum[0], sum[1]);
        return done(ahead, state.now);
    }

    int day() {
        String t = takeText();
        if (!t.isEmpty()) {
            int fault = judge(ACT + "(;" + ACT + ")*", ACT + "(;" + ACT + ")*;?", t, 60);
            if (fault < 0) {
                return fault;
            }
        }
        State ahead = state.copy();
        int lost = Integer.bitCount(bits(3));
        int count = 0;
        int refused = 0;
        for (String act : t.isEmpty() ? new String[0] : t.split(";")) {
            if (rawAct(act) < 0) {
                refused = 1;
                break;
            }
            count++;
        }
        if (count > 0) {
            done(ahead, 0);
        }
        tell(refused, Integer.bitCount(bits(3)) - lost);
        return count;
    }

    private int rawAct(String act) {
        int a = act.charAt(1) - '0';
        switch (act.charAt(0)) {
            case 'l': return rawLaunch(state, a, rain);
            case 'm': return rawMoor(a, act.charAt(2) - '0');
            case 'c': return rawCast(state, a);
            case 's': return rawSacks(a, Integer.parseInt(act.substring(2)));
            default:
                int n = Integer.parseInt(act.substring(1));
                if (n > 48) {
                    return -1;
                }
                for (int k = 0; k < n; k++) {
                    hour(state, rain);
                }
                return state.now;
        }
    }

    int undo() {
        if (past.isEmpty()) {
            return -1;
        }
        state = past.pop();
        return past.size();
    }

    // ---- as it is, hours to come

    int touches() {
        tell();
        int pairs = 0;
        for (int a = state.all.size() - 1; a >= 0; a--) {
            for (int b = state.all.size() - 1; b > a; b--) {
                if (touch(state, a, b)) {
                    pairs++;
                    tell(a, b);
                }
            }
        }
        return pairs;
    }

    private boolean breach(int upper, int under) {
        Balloon p = state.all.get(upper);
        Balloon q = state.all.get(under);
        return p.where == 2 && q.where == 2 && ringsBreach(p.ring, weight(p), q.ring, weight(q));
    }

    private boolean ringsBreach(int p, int weightP, int q, int weightQ) {
        return rings.get(p)[1] == rings.get(q)[1] && rings.get(p)[0] > rings.get(q)[0] && weightP > weightQ;
    }

    int breaches() {
        tell();
        int pairs = 0;
        for (int a = state.all.size() - 1; a >= 0; a--) {
            for (int b = state.all.size() - 1; b >= 0; b--) {
                if (breach(a, b)) {
                    pairs++;
                    tell(a, b);
                }
            }
        }
        return pairs;
    }

    int drifts(int b, int n) {
        if (!has(b) || n < 0 || n > 60) {
            return -1;
        }
        State s = state.copy();
        for (int k = 0; k < n; k++) {
            hour(s, rain);
        }
        Balloon o = s.all.get(b);
        tell(o.gas, o.where == 2 ? o.ring : cell(o));
        return o.where;
    }

    int sinks(int b) {
        if (!has(b)) {
            return -1;
        }
        int where = state.all.get(b).where;
        if (where == 0 || where == 3) {
            return -3;
        }
        State s = state.copy();
        for (int k = 1; k <= 99; k++) {
            hour(s, rain);
            if (s.all.get(b).where % 3 == 0) {
                tell(s.all.get(b).where);
                return k;
            }
        }
        return -2;
    }

    int rises(int b, int v) {
        if (!has(b) || v < 0 || v > 9) {
            return -1;
        }
        if (state.all.get(b).where == 3) {
            return -3;
        }
        State s = state.copy();
        Balloon o = s.all.get(b);
        for (int k = 0; o.sacks >= 0; k++) {
            if (high(s, b, rain) >= v) {
                tell(high(s, b, rain));
                return k;
            }
            o.sacks--;
        }
        return -2;
    }

    // ---- berths

    private static int[] listed(int bits) {
        int[] list = new int[Integer.bitCount(bits)];
        int n = 0;
        for (int b = 0; b < 31; b++) {
            if ((bits >> b & 1) == 1) {
                list[n++] = b;
            }
        }
        return list;
    }

    /** All rows of numbers below a bound, in their order, are tried. */
    private long[] berthRows(int those) {
        int[] told = listed(those);
        int[] at = new int[told.length];
        long found = 0;
        long[] first = null;
        if (rings.isEmpty() && told.length > 0) {
            return new long[] {0};
        }
        while (true) {
            if (fitsAll(told, at)) {
                found++;
                if (first == null) {
                    first = Arrays.stream(at).asLongStream().toArray();
                }
            }
            int i = at.length - 1;
            while (i >= 0 && at[i] == rings.size() - 1) {
                at[i--] = 0;
            }
            if (i < 0) {
                break;
            }
            at[i]++;
        }
        long[] result = new long[1 + (first == null ? 0 : first.length)];
        result[0] = found;
        if (first != null) {
            System.arraycopy(first, 0, result, 1, first.length);
        }
        return result;
    }

    private boolean fitsAll(int[] told, int[] at) {
        for (int i = 0; i < at.length; i++) {
            for (int j = 0; j < i; j++) {
                int weightI = weight(state.all.get(told[i]));
                int weightJ = weight(state.all.get(told[j]));
                if (at[i] == at[j] || ringsTouch(at[i], at[j]) || ringsBreach(at[i], weightI, at[j], weightJ)
                        || ringsBreach(at[j], weightJ, at[i], weightI)) {
                    return false;
                }
            }
        }
        return true;
    }

    int berths(int those) {
        if (those < 0 || those >= 1 << state.all.size()) {
            return -1;
        }
        long[] found = berthRows(those);
        tell(Arrays.copyOfRange(found, 1, found.length));
        return (int) found[0];
    }

    int served(int those) {
        if (those < 0 || those >= 1 << state.all.size()) {
            return -1;
        }
        int best = 0;
        for (int some = those; some > 0; some--) {
            if ((some & those) == some && Integer.bitCount(some) >= Integer.bitCount(best)
                    && berthRows(some)[0] > 0) {
                best = some;
            }
        }
        tell(best);
        return Integer.bitCount(best);
    }

    int yields(int b) {
        if (!has(b)) {
            return -1;
        }
        int open = 0;
        for (int r = 0; r < rings.size(); r++) {
            boolean fine = guest(r) < 0;
            int own = weight(state.all.get(b));
            for (int a = 0; a < state.all.size(); a++) {
                Balloon o = state.all.get(a);
                if (a != b && o.where == 2) {
                    fine &= !ringsTouch(r, o.ring) && !ringsBreach(r, own, o.ring, weight(o))
                            && !ringsBreach(o.ring, weight(o), r, own);
                }
            }
            open |= fine ? 1 << r : 0;
        }
        tell(Integer.bitCount(open));
        return open;
    }

    // ---- landings

    private int[] best;

    /** SACKS, HOURS, then the drops: the least of all that do. */
    private int[] landing(int b, int r, int n) {
        best = null;
        State s = state.copy();
        for (int a = 0; a < s.all.size(); a++) {
            if (a != b) {
                s.all.get(a).where = 3;
            }
        }
        tryDrops(s, b, r, n, new int[0]);
        return best;
    }

    private void tryDrops(State s, int b, int r, int left, int[] drops) {
        for (int d = 0; d <= s.all.get(b).sacks; d++) {
            State t = s.copy();
            Balloon o = t.all.get(b);
            o.sacks -= d;
            int[] more = Arrays.copyOf(drops, drops.length + 1);
            more[drops.length] = d;
            if (Math.abs(o.x) + Math.abs(o.y) <= o.rope && Math.abs(high(t, b, rain) - rings.get(r)[0]) <= 1) {
                int[] row = new int[more.length + 2];
                row[0] = Arrays.stream(more).sum();
                row[1] = drops.length;
                System.arraycopy(more, 0, row, 2, more.length);
                if (best == null || Arrays.compare(row, best) < 0) {
                    best = row;
                }
            }
            if (left > 0) {
                hour(t, rain);
                if (o.where == 1) {
                    tryDrops(t, b, r, left - 1, more);
                }
            }
        }
    }

    int lands(int b, int r, int n) {
        if (!has(b) || !hasRing(r) || n < 0 || n > 6) {
            return -1;
        }
        if (state.all.get(b).where != 1) {
            return -3;
        }
        if (guest(r) >= 0) {
            return -4;
        }
        int[] found = landing(b, r, n);
        if (found == null) {
            return -2;
        }
        tell(Arrays.stream(found).skip(1).asLongStream().toArray());
        return found[0];
    }

    int nearest(int b, int n) {
        if (!has(b) || n < 0 || n > 6) {
            return -1;
        }
        if (state.all.get(b).where != 1) {
            return -3;
        }
        int[] least = null;
        for (int r = 0; r < rings.size(); r++) {
            int[] found = guest(r) >= 0 ? null : landing(b, r, n);
            if (found != null) {
                int[] row = {found[0], found[1], r};
                least = least == null || Arrays.compare(row, least) < 0 ? row : least;
            }
        }
        if (least == null) {
            return -2;
        }
        tell(least[0], least[1]);
        return least[2];
    }

    // ---- storms

    private int[] order;

    int storm() {
        order = new int[0];
        tryOrder(bits(2), new int[0]);
        tell(Arrays.stream(order).asLongStream().toArray());
        return order.length;
    }

    private void tryOrder(int rest, int[] so) {
        if (so.length > order.length || so.length == order.length && Arrays.compare(so, order) < 0) {
            order = so;
        }
        for (int b : listed(rest)) {
            if (state.all.get(b).rope > so.length) {
                int[] more = Arrays.copyOf(so, so.length + 1);
                more[so.length] = b;
                tryOrder(rest & ~(1 << b), more);
            }
        }
    }

    // ---- who lay where

    int mark(int r, int what, int v) {
        if (!hasRing(r) || what < 0 || what > 2 || v < 0 || v > 99 || marks.size() == 12) {
            return -1;
        }
        marks.add(new int[] {r, what, v});
        return marks.size();
    }

    int wipe() {
        int had = marks.size();
        marks.clear();
        return had;
    }

    private boolean fits(int r, int b) {
        for (int[] m : marks) {
            if (m[0] == r) {
                Balloon o = state.all.get(b);
                boolean fine = m[1] == 0 ? o.rope >= m[2] : m[1] == 1 ? weight(o) <= m[2] : b != m[2];
                if (!fine) {
                    return false;
                }
            }
        }
        return true;
    }

    int lay(int r) {
        if (!hasRing(r)) {
            return -1;
        }
        int bits = 0;
        for (int b = 0; b < state.all.size(); b++) {
            bits |= fits(r, b) ? 1 << b : 0;
        }
        tell(Integer.bitCount(bits));
        return bits;
    }

    private int[] markedRings() {
        return marks.stream().mapToInt(m -> m[0]).distinct().sorted().toArray();
    }

    private List<int[]> allWays() {
        List<int[]> ways = new ArrayList<>();
        ways.add(new int[0]);
        for (int r : markedRings()) {
            List<int[]> longer = new ArrayList<>();
            for (int[] way : ways) {
                for (int b = 0; b < state.all.size(); b++) {
                    int one = b;
                    if (fits(r, b) && Arrays.stream(way).noneMatch(o -> o == one)) {
                        int[] more = Arrays.copyOf(way, way.length + 1);
                        more[way.length] = b;
                        longer.add(more);
                    }
                }
            }
            ways = longer;
        }
        return ways;
    }

    int ways() {
        List<int[]> ways = allWays();
        tell(ways.isEmpty() ? new long[0]
                : Arrays.stream(ways.stream().min(Arrays::compare).get()).asLongStream().toArray());
        return ways.size();
    }

    int sure() {
        List<int[]> ways = allWays();
        int[] marked = markedRings();
        tell();
        int bits = 0;
        for (int i = 0; i < marked.length && !ways.isEmpty(); i++) {
            int at = i;
            if (ways.stream().mapToInt(w -> w[at]).distinct().count() == 1) {
                bits |= 1 << marked[i];
                row.add((long) ways.get(0)[i]);
            }
        }
        return bits;
    }

    // ---- winds by chance, seasons

    private BigInteger likely(State s, int b, int left, int p, int v) {
        Balloon o = s.all.get(b);
        if (left == 0) {
            return Math.abs(o.x) + Math.abs(o.y) <= v ? BigInteger.ONE : BigInteger.ZERO;
        }
        BigInteger sum = BigInteger.ZERO;
        for (int blows = 0; blows <= 1; blows++) {
            State t = s.copy();
            Balloon q = t.all.get(b);
            if (blows == 1) {
                int[] to = blown(q.x, q.y, high(t, b, rain));
                q.x = to[0];
                q.y = to[1];
            }
            t.now++;
            if (Math.max(Math.abs(q.x), Math.abs(q.y)) <= 9) {
                sum = sum.add(likely(t, b, left - 1, p, v).multiply(BigInteger.valueOf(blows == 1 ? p : 10 - p)));
            }
        }
        return sum;
    }

    private void tellFraction(BigInteger upper, BigInteger lower) {
        BigInteger gcd = upper.gcd(lower);
        tell(upper.divide(gcd).longValueExact(), lower.divide(gcd).longValueExact());
    }

    int chance(int b, int n, int p, int v) {
        if (!has(b) || n < 1 || n > 8 || p < 0 || p > 10 || v < 0 || v > 18) {
            return -1;
        }
        if (state.all.get(b).where != 1) {
            return -2;
        }
        tellFraction(likely(state, b, n, p, v), BigInteger.TEN.pow(n));
        return 0;
    }

    int when(int b, int p) {
        if (!has(b) || p < 0 || p > 10) {
            return -1;
        }
        if (state.all.get(b).where != 1) {
            return -2;
        }
        int first = 0;
        BigInteger most = null;
        for (int n = 8; n >= 1; n--) {
            BigInteger likely = likely(state, b, n, p, state.all.get(b).rope).multiply(BigInteger.TEN.pow(8 - n));
            if (most == null || likely.compareTo(most) >= 0) {
                most = likely;
                first = n;
            }
        }
        tellFraction(most, BigInteger.TEN.pow(8));
        return first;
    }

    private int drawn;

    private int draw(int n) {
        drawn = drawn * 1103515245 + 12345;
        return (int) (Integer.toUnsignedLong(drawn) / 65536 % n);
    }

    int season(int seed, int n) {
        if (n < 1 || n > 60 || state.all.isEmpty()) {
            return -1;
        }
        State s = state.copy();
        drawn = seed;
        int came = 0;
        int lost = 0;
        for (int k = 0; k < n; k++) {
            int rainThen = draw(10);
            int b = draw(s.all.size());
            if (rawLaunch(s, b, rainThen) < 0) {
                rawCast(s, b);
            }
            int[] fates = hour(s, rainThen);
            came += Integer.bitCount(fates[0]);
            lost += Integer.bitCount(fates[1]);
        }
        tell(came, s.all.stream().filter(o -> o.where == 1).count());
        return lost;
    }

    // ---- kept

    int keep(int i) {
        if (i < 0 || i > 2) {
            return 0;
        }
        kept[i] = state.copy();
        return 1;
    }

    int again(int i) {
        if (i < 0 || i > 2 || kept[i] == null) {
            return 0;
        }
        state = kept[i].copy();
        past.clear();
        return 1;
    }

    private int bits(int where) {
        int bits = 0;
        for (int b = 0; b < state.all.size(); b++) {
            bits |= state.all.get(b).where == where ? 1 << b : 0;
        }
        return bits;
    }

    int count(int what) {
        int[] all = {rings.size(), state.all.size(), state.now, bits(0), bits(1), bits(2), bits(3), rain,
            marks.size(), past.size(), row.size(), text.length()};
        return what < 0 || what >= all.length ? -100 : all[what];
    }
}
