/** Boundary sentences of promises 39 to 41: winds by chance, seasons. */
final class BoundsOfChance {
    private static final int LEAST = Integer.MIN_VALUE;
    private static final int MOST = Integer.MAX_VALUE;
    private static final int[] SEEDS = {0, 1, 2, 3, 7, -1, -2, 12345, -12345, LEAST, MOST, LEAST + 1, 1 << 30, 99999999};

    private BoundsOfChance() {
    }

    static void run() {
        chanceOf();
        chanceByTenths();
        chanceNear();
        chanceRefused();
        when();
        whenRefused();
        seasonHours();
        seasonLaunches();
        seasonCounts();
        draws();
        drawsOfMany();
    }

    private static void chance(BalloonsMoor x, int n, int p, int v, long upper, long lower) {
        Desk.due("chance", x.chance(0, n, p, v), 0);
        Desk.dueRow("in " + n + " by " + p + " within " + v, x, upper, lower);
    }

    private static BalloonsMoor eastward(String balloon, String wind) {
        BalloonsMoor x = Desk.harbour("", balloon);
        Desk.blown(x, "-/-/-/-/-/" + wind + "/-/-/-/-");
        x.launch(0);
        return x;
    }

    private static void chanceOf() {
        Sentences.holds("Promise 39", "A FREE one (GAS does not leak, it does not come down; HOURS go by for THE RULE)", () -> {
            BalloonsMoor x = eastward("50,0019", "21");
            chance(x, 8, 10, 7, 0, 1);
            chance(x, 8, 10, 8, 1, 1);
            Desk.ruled(x, "50-(h=2)*99");
            Desk.due("it would come down in 2", x.sinks(0), 2);
            chance(x, 8, 10, 6, 0, 1);
            chance(x, 8, 10, 7, 1, 1);
            Desk.ruled(x, "(h=23)*50");
            chance(x, 8, 10, 0, 1, 1);
            x.hours(16);
            chance(x, 7, 10, 0, 1, 1);
            chance(x, 8, 10, 0, 0, 1);
            Desk.ruled(x, "(h=0)*50");
            x.hours(1);
            chance(x, 7, 10, 0, 1, 1);
            chance(x, 8, 10, 0, 0, 1);
            Desk.ruled(x, "(h=17)*50");
            chance(x, 1, 10, 0, 0, 1);
            chance(x, 8, 10, 1, 1, 1);
        });
        Sentences.holds("Promise 39", "in each of n HOURS (1 .. 8) the WIND of its HIGH blows by p tenths (0 .. 10), else not", () -> {
            BalloonsMoor x = eastward("50,0010", "21");
            for (int n = 1; n <= 8; n++) {
                chance(x, n, 0, 0, 1, 1);
                chance(x, n, 10, n, 1, 1);
                chance(x, n, 10, n - 1, 0, 1);
                chance(x, n, 5, 0, 1, 1L << n);
                chance(x, n, 5, n - 1, (1L << n) - 1, 1L << n);
            }
            Desk.due("nothing of it is done", x.balloon(0, 9) * 100 + x.count(2), 18000);
        });
    }

    private static void chanceByTenths() {
        Sentences.holds("Promise 39", ": 0; the ROW: the fraction.", () -> {
            BalloonsMoor x = eastward("50,0010", "21");
            long[] lower = {1, 10, 5, 10, 5, 2, 5, 10, 5, 10, 1};
            for (int p = 0; p <= 10; p++) {
                chance(x, 1, p, 0, (10 - p) * lower[p] / 10, lower[p]);
            }
            chance(x, 8, 9, 0, 1, 100000000);
            chance(x, 8, 1, 0, 43046721, 100000000);
            chance(x, 3, 3, 1, 98, 125);
        });
    }

    private static void chanceNear() {
        Sentences.holds("Promise 39", "how likely x and y (without signs) are v (0 .. 18) or less together then (LOST ones are not)", () -> {
            for (int way = 0; way < 8; way++) {
                int each = way % 2 == 0 ? 3 : 6;
                BalloonsMoor x = eastward("50,0010", way + "3");
                chance(x, 1, 10, each, 1, 1);
                chance(x, 1, 10, each - 1, 0, 1);
                chance(x, 3, 10, 3 * each, 1, 1);
                chance(x, 3, 10, 3 * each - 1, 0, 1);
                chance(x, 4, 10, 18, 0, 1);
                chance(x, 4, 5, 18, 15, 16);
                chance(x, 5, 5, 0, 1, 32);
                chance(x, 5, 5, 18, 13, 16);
            }
        });
    }

    private static void chanceRefused() {
        Sentences.holds("Promise 39", "-2: it is not FREE; NONE: others.", () -> {
            BalloonsMoor x = Desk.harbour("50", "55,0010;55,0010;95,0010;55,0010");
            Desk.blown(x, "-/-/-/-/-/-/-/-/-/23");
            x.launch(1);
            x.moor(1, 0);
            x.launch(2);
            x.hours(4);
            x.launch(3);
            for (int b = 0; b < 3; b++) {
                Desk.due("chance of " + b, x.chance(b, 1, 1, 1), -2);
            }
            for (int b : new int[] {4, 6, -1, LEAST, MOST}) {
                Desk.due("chance of " + b, x.chance(b, 1, 1, 1), -1);
            }
            for (int b = 0; b < 4; b++) {
                for (int n : new int[] {0, 9, -1, LEAST, MOST}) {
                    Desk.due("n " + n, x.chance(b, n, 1, 1), -1);
                }
                for (int p : new int[] {11, -1, LEAST, MOST}) {
                    Desk.due("p " + p, x.chance(b, 1, p, 1), -1);
                }
                for (int v : new int[] {19, -1, LEAST, MOST}) {
                    Desk.due("v " + v, x.chance(b, 1, 1, v), -1);
                }
            }
            Desk.due("the free one", x.chance(3, 8, 10, 18), 0);
            Desk.due("the free one", x.chance(3, 1, 0, 0), 0);
        });
    }

    private static void when() {
        String p = "Promise 40";
        Sentences.holds(p, "In how many HOURS (1 .. 8) that is the likeliest with v its ROPE; of as likely ones the first:"
            + " it; the ROW: the fraction.", () -> {
            BalloonsMoor x = eastward("50,0020", "21");
            Desk.due("two are within the rope: as likely in one hour as in two", x.when(0, 10), 1);
            Desk.dueRow("sure", x, 1, 1);
            x.hours(9);
            Desk.blown(x, "-/-/-/-/-/61/-/-/-/-");
            Desk.due("from 9 off in seven hours", x.when(0, 10), 7);
            Desk.dueRow("sure", x, 1, 1);
            Desk.due("by halves the last is the likeliest", x.when(0, 5), 8);
            Desk.dueRow("7 or 8 of 8", x, 9, 256);
            Desk.due("never: the first", x.when(0, 0), 1);
            Desk.dueRow("never", x, 0, 1);
            BalloonsMoor y = eastward("50,0010", "21");
            y.hours(9);
            Desk.blown(y, "-/-/-/-/-/61/-/-/-/-");
            Desk.due("from 9 off in eight hours", y.when(0, 10), 8);
            Desk.dueRow("sure", y, 1, 1);
            BalloonsMoor z = eastward("50,0010", "22");
            Desk.due("stays by not blowing", z.when(0, 3), 1);
            Desk.dueRow("stays by not blowing", z, 7, 10);
            BalloonsMoor w = eastward("50,0040", "22");
            w.hours(3);
            Desk.blown(w, "-/-/-/-/-/61/-/-/-/-");
            Desk.due("from 6 to 4", w.when(0, 1), 8);
            Desk.dueRow("two or more of eight by tenths", w, 18689527, 100000000);
        });
    }

    private static void whenRefused() {
        Sentences.holds("Promise 40", "-2, NONE: likewise.", () -> {
            BalloonsMoor x = Desk.harbour("50", "55,0010;55,0010;95,0010;55,0010");
            Desk.blown(x, "-/-/-/-/-/-/-/-/-/23");
            x.launch(1);
            x.moor(1, 0);
            x.launch(2);
            x.hours(4);
            x.launch(3);
            for (int b = 0; b < 3; b++) {
                Desk.due("when of " + b, x.when(b, 1), -2);
                for (int p : new int[] {11, -1, LEAST, MOST}) {
                    Desk.due("p " + p, x.when(b, p), -1);
                }
            }
            for (int b : new int[] {4, 6, -1, LEAST, MOST}) {
                Desk.due("when of " + b, x.when(b, 1), -1);
            }
            for (int p : new int[] {11, -1, LEAST, MOST}) {
                Desk.due("p " + p, x.when(3, p), -1);
            }
            Desk.due("p 0", x.when(3, 0), 1);
            Desk.due("p 10", x.when(3, 10), 1);
        });
    }

    private static void seasonHours() {
        String p = "Promise 41";
        Sentences.holds(p, "n HOURS (1 .. 60) from now", () -> {
            BalloonsMoor x = Desk.harbour("", "99,0010");
            Desk.ruled(x, "0-(h-h/2*2)");
            for (int n = 1; n <= 60; n++) {
                Desk.due("season " + n, x.season(n, n), 0);
                Desk.dueRow("up and down by turns, " + n, x, (n + 1) / 2, 0);
            }
            x.hours(1);
            x.season(1, 1);
            Desk.dueRow("from now, an hour later", x, 0, 0);
            x.season(1, 60);
            Desk.dueRow("from now, an hour later", x, 30, 0);
        });
        Sentences.holds(p, "NONE: another n, no BALLOONS.", () -> {
            BalloonsMoor x = new BalloonsMoor();
            Desk.due("no balloons", x.season(1, 1), -1);
            Desk.due("no balloons", x.season(1, 60), -1);
            Desk.balloons(x, "9,0010");
            for (int n : new int[] {0, 61, -1, LEAST, MOST}) {
                Desk.due("n " + n, x.season(1, n), -1);
            }
            Desk.due("n 1", x.season(1, 1), 0);
            Desk.due("n 60", x.season(1, 60), 0);
        });
    }

    private static void seasonLaunches() {
        Sentences.holds("Promise 41", "the BALLOON that a DRAW of how many there are tells is launched, if it can be,"
            + " else cast off, if it is MOORED", () -> {
            BalloonsMoor x = Desk.harbour("00", "9,0010");
            Desk.ruled(x, "5");
            x.season(1, 1);
            Desk.dueRow("launched", x, 0, 1);
            Desk.ruled(x, "0-1");
            x.season(1, 1);
            Desk.dueRow("can't be: it stays in the yard", x, 0, 0);
            Desk.ruled(x, "5");
            x.launch(0);
            Desk.blown(x, "21/-/-/-/-/-/-/-/-/-");
            x.hours(8);
            x.season(1, 1);
            Desk.dueRow("a free one goes on", x, 0, 1);
            Desk.due("it is not set back over the tower", x.season(1, 2), 1);
            Desk.dueRow("lost", x, 0, 0);
            Desk.due("lost for good", x.season(1, 60), 1);
            x.undo();
            x.moor(0, 0);
            x.season(1, 1);
            Desk.dueRow("a moored one is cast off", x, 0, 1);
            Desk.due("from over the tower it takes 9 hours and one", x.season(1, 9), 0);
            Desk.due("from over the tower it takes 9 hours and one", x.season(1, 10), 1);
            Desk.due("it is moored still", x.count(5), 1);
        });
    }

    private static void seasonCounts() {
        String p = "Promise 41";
        Sentences.holds(p, "how many are LOST in these; the ROW: how often one came to THE YARD, how many are FREE then.", () -> {
            BalloonsMoor x = Desk.harbour("", "95,0010;50,0010;50,0010");
            Desk.blown(x, "-/-/-/-/-/-/-/-/-/23");
            x.launch(0);
            x.hours(4);
            Desk.due("one is lost", x.count(6), 1);
            Desk.ruled(x, "50");
            Desk.due("not in these", x.season(3, 60), 0);
            Desk.dueRow("the others are free", x, 0, 2);
            Desk.ruled(x, "0-(h-h/2*2)");
            x.season(3, 60);
            Desk.due("many came down, some of them more than once", x.row(0) > 2, true);
            Desk.due("none is free", x.row(1), 0);
        });
        Sentences.holds(p, "(RAIN is as ahead behind that.)", () -> {
            BalloonsMoor x = Desk.harbour("", "95,0010");
            for (int rain = 0; rain <= 9; rain++) {
                x.rain(rain);
                x.season(rain * 7, 1 + rain * 6);
                Desk.due("rain", x.count(7), rain);
            }
        });
    }

    /** How often R of a seed is drawn so many times, then the number of n. */
    private static int drawn(int seed, int times, int n) {
        long r = seed;
        for (int i = 0; i < times; i++) {
            r = (r * 1103515245L + 12345L) & 0xFFFFFFFFL;
        }
        return (int) (r / 65536 % n);
    }

    private static void draws() {
        String p = "Promise 41";
        Sentences.holds(p, "A DRAW of n: R = R times 1103515245 + 12345 (as ints; R is seed at first), (R without sign, by 65536) % n.", () -> {
            boolean high = false;
            for (int seed : SEEDS) {
                high |= (seed * 1103515245 + 12345) < 0;
                BalloonsMoor x = Desk.harbour("", "9,0010");
                for (int rain = 0; rain <= 9; rain++) {
                    Desk.ruled(x, "(r=" + rain + ")-1");
                    x.season(seed, 1);
                    Desk.dueRow("seed " + seed + ", rain " + rain, x, 0, drawn(seed, 1, 10) == rain ? 1 : 0);
                }
            }
            Desk.due("one R is below 0 as an int", high, true);
        });
        Sentences.holds(p, "ahead of each a DRAW of 10 is RAIN", () -> {
            for (int seed : SEEDS) {
                BalloonsMoor x = Desk.harbour("", "9,0010");
                int second = drawn(seed, 3, 10);
                Desk.ruled(x, "(h=1)*(r=" + second + ")-1");
                x.season(seed, 2);
                Desk.dueRow("by the rain of the second hour it is launched, and comes down", x, 1, 0);
                Desk.ruled(x, "(h>0)*(r=" + second + ")-1");
                x.season(seed, 2);
                Desk.dueRow("that rain holds to the hour's end", x, 0, 1);
            }
        });
    }

    private static void drawsOfMany() {
        Sentences.holds("Promise 41", "and the BALLOON that a DRAW of how many there are tells", () -> {
            StringBuilder balloons = new StringBuilder("9,0010");
            for (int many = 1; many <= 6; many++) {
                for (int seed : SEEDS) {
                    BalloonsMoor x = Desk.harbour("", balloons.toString());
                    for (int b = 0; b < many; b++) {
                        Desk.ruled(x, "(b=" + b + ")-1");
                        x.season(seed, 1);
                        Desk.dueRow("seed " + seed + ", " + b + " of " + many, x, 0, drawn(seed, 2, many) == b ? 1 : 0);
                    }
                }
                balloons.append(";9,0010");
            }
        });
    }
}
