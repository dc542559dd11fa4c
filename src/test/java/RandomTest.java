import java.util.Arrays;
import java.util.NoSuchElementException;
import java.util.Random;

/** Runs of calls drawn by fixed seeds: each answer and each ROW as the plain model tells them. */
public final class RandomTest {
    private static final int RUNS = 600;
    private static final int CALLS = 400;
    private static final int LANDINGS = 8000;
    private static final String[] RULES = {"", "g-s*5-c*4-r", "g", "g/2+h-r", "90-g+(h>11)*20", "s*s-4", "g-s*(3+b)",
        "(h=3)*50+g/3", "0-(r>7)*g+5", "l*10-o+g-s*3", "-(s>4)+g/(h-5)", "(g>20)*(g-s*4-c*3)", "10*(9-s)-h*2"};

    private static final String[] CALM_RULES = {"35", "25+s*2", "45-s*3", "30+b*5", "40-c*6", "20+h*2", "50-s*5"};

    private static Random random;
    private static boolean calm;
    private static BalloonsMoor x;
    private static Plain m;
    private static int wrong = 0;
    private static int asked = 0;

    public static void main(String[] args) {
        for (int run = 0; run < RUNS && wrong < 20; run++) {
            random = new Random(20261118L * 31 + run);
            calm = run % 2 == 0;
            x = new BalloonsMoor();
            m = new Plain();
            tell("tower", towerText());
            tell("balloons", flockText());
            if (draw(5) > 0) {
                tell("winds", windsText());
            }
            tell("rule", someRule());
            for (int call = 0; call < CALLS && wrong < 20; call++) {
                step();
            }
        }
        for (int run = 0; run < LANDINGS && wrong < 20; run++) {
            landings(run);
        }
        System.out.println("RandomTest: " + asked + " asked, " + wrong + " wrong");
        if (wrong != 0) {
            System.exit(1);
        }
    }

    /** One with many SACKS is off the tower in mixed winds: how it lands, at each height. */
    private static void landings(int run) {
        random = new Random(run);
        x = new BalloonsMoor();
        m = new Plain();
        tell("tower", "00;10;30;40;60;70;90");
        tell("balloons", (55 + draw(45)) + "," + draw(10) + "0" + (1 + draw(3)) + draw(8));
        tell("rule", new String[] {"", "g-s*9", "g/2-s*4+5", "s*9-h", "g-s*7-(h>2)*s*3"}[draw(5)]);
        tell("winds", lines(10, () -> "" + draw(8) + (1 + draw(3)), "/"));
        same("launch", x.launch(0), m.launch(0));
        int off = draw(3);
        same("hours", x.hours(off), m.hours(off));
        tell("winds", lines(10, () -> draw(6) == 0 ? "-" : "" + draw(8) + (1 + draw(2)), "/"));
        int n = draw(7);
        for (int r = 0; r < 7; r++) {
            same("lands 0 " + r + " " + n, x.lands(0, r, n), m.lands(0, r, n));
        }
        same("nearest 0 " + n, x.nearest(0, n), m.nearest(0, n));
    }

    private static int draw(int n) {
        return random.nextInt(n);
    }

    /** Mostly 0 .. n - 1, now and then beyond. */
    private static int near(int n) {
        if (draw(25) == 0) {
            int[] far = {-1, n, n + 1, Integer.MIN_VALUE, Integer.MAX_VALUE, -2};
            return far[draw(far.length)];
        }
        return draw(Math.max(1, n));
    }

    private static int someBalloon() {
        return near(x.count(1));
    }

    private static int someRing() {
        return near(x.count(0));
    }

    private static String lines(int n, java.util.function.Supplier<String> line, String between) {
        StringBuilder b = new StringBuilder();
        for (int i = 0; i < n; i++) {
            b.append(i == 0 ? "" : between).append(line.get());
        }
        return b.toString();
    }

    private static String someRule() {
        return calm ? CALM_RULES[draw(CALM_RULES.length)] : RULES[draw(RULES.length)];
    }

    /** In calm runs heights are such as the rules lift to, so that many can be moored. */
    private static String towerText() {
        int sides = 1 + draw(calm ? 3 : 8);
        int low = calm ? 2 : draw(10);
        int span = calm ? 3 : 1 + draw(10 - low);
        return lines(calm ? 4 + draw(5) : draw(9), () -> "" + (low + draw(span)) + draw(sides), ";");
    }

    private static String flockText() {
        int leaks = calm ? 2 : 4;
        return lines(1 + draw(6), () -> "" + draw(100) + "," + draw(10) + draw(4) + (1 + draw(9)) + draw(leaks), ";");
    }

    private static String windsText() {
        int strong = calm ? 1 : 3;
        return lines(10, () -> draw(3) == 0 ? "-" : "" + draw(8) + (1 + draw(strong)), "/");
    }

    private static String dayText() {
        return lines(draw(8), () -> {
            switch (draw(6)) {
                case 0: return "l" + draw(6);
                case 1: return "m" + draw(6) + draw(8);
                case 2: return "c" + draw(6);
                case 3: return "s" + draw(6) + (draw(2) == 0 ? "+" : "-") + draw(4);
                default: return "h" + draw(draw(4) == 0 ? 60 : 4);
            }
        }, ";");
    }

    private static String thing(int depth) {
        switch (draw(depth > 4 ? 2 : 4)) {
            case 0: return "" + draw(draw(2) == 0 ? 10 : 1000);
            case 1: return "" + "gsclorhb".charAt(draw(8));
            case 2: return "(" + expression(depth + 1) + ")";
            default: return "-" + thing(depth);
        }
    }

    private static String expression(int depth) {
        StringBuilder b = new StringBuilder(thing(depth));
        int more = draw(4);
        for (int i = 0; i < more; i++) {
            b.append("+-*/+-*/<>=".charAt(draw(11))).append(thing(depth));
        }
        return b.toString();
    }

    private static String spoiled(String text) {
        if (draw(3) > 0) {
            return text;
        }
        String signs = "0123456789;,/-+*()<>=glmchsxorb \0\u00ff";
        StringBuilder b = new StringBuilder(text);
        int changes = 1 + draw(2);
        for (int i = 0; i < changes; i++) {
            char c = signs.charAt(draw(signs.length()));
            int at = draw(b.length() + 1);
            if (draw(3) == 0 && at < b.length()) {
                b.deleteCharAt(at);
            } else if (draw(2) == 0 && at < b.length()) {
                b.setCharAt(at, c);
            } else {
                b.insert(at, c);
            }
        }
        return b.toString();
    }

    private static void tell(String name, String text) {
        String told = text.length() > 80 ? text.substring(0, 80) : text;
        Desk.tell(x, told);
        m.text(told);
        switch (name) {
            case "tower": same(name + " " + told, x.tower(), m.tower()); break;
            case "balloons": same(name + " " + told, x.balloons(), m.balloons()); break;
            case "winds": same(name + " " + told, x.winds(), m.winds()); break;
            case "rule": same(name + " " + told, x.rule(), m.rule()); break;
            default: same(name + " " + told, x.day(), m.day()); break;
        }
    }

    private static void step() {
        int kind = draw(100);
        if (kind < 4) {
            tellSome(draw(5));
        } else if (kind < 50) {
            act(draw(10));
        } else if (kind < 70) {
            lookAhead(draw(12));
        } else if (kind < 85) {
            ponder(draw(12));
        } else {
            lookAll();
        }
    }

    private static void tellSome(int kind) {
        String rule = calm || draw(2) == 0 ? someRule() : expression(0);
        switch (kind) {
            case 0:
                tell("tower", draw(4) == 0 ? spoiled(towerText()) : towerText() + "x");
                tell("balloons", flockText());
                break;
            case 1: tell("balloons", draw(3) == 0 ? spoiled(flockText()) : ""); break;
            case 2: tell("winds", spoiled(windsText())); break;
            case 3: tell("rule", spoiled(rule)); break;
            default: tell("day", spoiled(dayText())); break;
        }
    }

    private static void act(int kind) {
        int b = someBalloon();
        int n = draw(6) - 3;
        switch (kind) {
            case 0: case 1: same("launch " + b, x.launch(b), m.launch(b)); break;
            case 2: case 3:
                int r = someRing();
                same("moor " + b + " " + r, x.moor(b, r), m.moor(b, r));
                break;
            case 4: same("cast " + b, x.cast(b), m.cast(b)); break;
            case 5: same("sacks " + b + " " + n, x.sacks(b, n), m.sacks(b, n)); break;
            case 6:
                int c = near(10);
                same("cargo " + b + " " + c, x.cargo(b, c), m.cargo(b, c));
                break;
            case 7:
                int g = near(100);
                same("fill " + b + " " + g, x.fill(b, g), m.fill(b, g));
                break;
            case 8:
                int h = draw(calm ? 40 : 6) == 0 ? near(49) : draw(3);
                same("hours " + h, x.hours(h), m.hours(h));
                break;
            default: rare(draw(6)); break;
        }
    }

    private static void rare(int kind) {
        int i = near(3);
        switch (kind) {
            case 0: same("undo", x.undo(), m.undo()); break;
            case 1:
                int v = near(10);
                same("rain " + v, x.rain(v), m.rain(v));
                break;
            case 2:
                int k = near(4);
                int n = near(7);
                int f = draw(2) == 0 ? draw(100) : random.nextInt();
                int step = draw(2) == 0 ? draw(20) : random.nextInt();
                same("sheet " + k + " " + n + " " + f + " " + step, x.sheet(k, n, f, step), m.sheet(k, n, f, step));
                break;
            case 3: same("keep " + i, x.keep(i) ? 1 : 0, m.keep(i)); break;
            case 4: same("again " + i, x.again(i) ? 1 : 0, m.again(i)); break;
            default: tell("day", spoiled(dayText())); break;
        }
    }

    private static void lookAhead(int kind) {
        int b = someBalloon();
        int n = near(9);
        int v = near(10);
        int r = someRing();
        switch (kind) {
            case 0: same("touches", x.touches(), m.touches()); break;
            case 1: same("breaches", x.breaches(), m.breaches()); break;
            case 2: same("drifts " + b + " " + n, x.drifts(b, n), m.drifts(b, n)); break;
            case 3:
                int far = near(61);
                same("drifts " + b + " " + far, x.drifts(b, far), m.drifts(b, far));
                break;
            case 4: same("sinks " + b, x.sinks(b), m.sinks(b)); break;
            case 5: same("rises " + b + " " + v, x.rises(b, v), m.rises(b, v)); break;
            case 6: case 7: case 8:
                int w = near(7);
                same("lands " + b + " " + r + " " + w, x.lands(b, r, w), m.lands(b, r, w));
                break;
            case 9: case 10:
                int u = near(5);
                same("nearest " + b + " " + u, x.nearest(b, u), m.nearest(b, u));
                break;
            default: same("storm", x.storm(), m.storm()); break;
        }
    }

    private static void ponder(int kind) {
        int b = someBalloon();
        int r = someRing();
        int those = near(1 << x.count(1));
        int p = near(11);
        switch (kind) {
            case 0: same("berths " + those, x.berths(those), m.berths(those)); break;
            case 1: same("served " + those, x.served(those), m.served(those)); break;
            case 2: same("yields " + b, x.yields(b), m.yields(b)); break;
            case 3: case 4:
                int what = near(3);
                int v = what == 0 ? near(5) : what == 1 ? 20 + near(80) : near(7);
                same("mark " + r + " " + what + " " + v, x.mark(r, what, v), m.mark(r, what, v));
                break;
            case 5:
                if (draw(4) == 0) {
                    same("wipe", x.wipe(), m.wipe());
                }
                break;
            case 6: same("lay " + r, x.lay(r), m.lay(r)); break;
            case 7: same("ways", x.ways(), m.ways()); break;
            case 8: same("sure", x.sure(), m.sure()); break;
            case 9:
                int n = 1 + near(8);
                int near = near(19);
                same("chance " + b + " " + n + " " + p + " " + near, x.chance(b, n, p, near), m.chance(b, n, p, near));
                break;
            case 10: same("when " + b + " " + p, x.when(b, p), m.when(b, p)); break;
            default:
                int seed = random.nextInt();
                int hours = near(61);
                same("season " + seed + " " + hours, x.season(seed, hours), m.season(seed, hours));
                break;
        }
    }

    private static void lookAll() {
        for (int what = -1; what <= 12; what++) {
            same("count " + what, x.count(what), m.count(what));
        }
        int b = someBalloon();
        int r = someRing();
        for (int what = -1; what <= 10; what++) {
            int w = what;
            same("balloon " + b + " " + what, caught(() -> x.balloon(b, w)), m.balloon(b, what));
            same("ring " + r + " " + what, caught(() -> x.ring(r, w)), m.ring(r, what));
        }
        same("lift " + b, caught(() -> x.lift(b)), m.lift(b));
    }

    private static long caught(Desk.Call call) {
        try {
            return call.answer();
        } catch (NoSuchElementException e) {
            return Plain.THROWS;
        }
    }

    private static void same(String call, long got, long want) {
        asked++;
        if (got != want) {
            wrong++;
            System.out.println(call + " answered " + got + ", due is " + want);
        }
        long[] row = Desk.rowOf(x);
        if (!Arrays.equals(row, m.row())) {
            wrong++;
            System.out.println(call + " told " + Arrays.toString(row) + ", due is " + Arrays.toString(m.row()));
        }
    }
}
