/** Promises 39 to 41: winds by chance, seasons. */
public final class ChanceTest {
    private static final String EAST = "-/-/-/-/-/21/-/-/-/-";

    public static void main(String[] args) {
        chances();
        chanceOfLostOnes();
        chanceByTheHour();
        chanceRefused();
        whens();
        seasons();
        seasonByHand();
        Desk.close("ChanceTest");
    }

    private static void chance(BalloonsMoor x, int n, int p, int v, long upper, long lower) {
        Desk.due("chance", x.chance(0, n, p, v), 0);
        Desk.dueRow("chance " + n + " " + p + " " + v, x, upper, lower);
    }

    private static void chances() {
        BalloonsMoor x = Desk.harbour("", "59,0029");
        Desk.winds(x, EAST);
        x.launch(0);
        chance(x, 1, 3, 0, 7, 10);
        chance(x, 2, 5, 0, 1, 4);
        chance(x, 2, 5, 1, 3, 4);
        chance(x, 8, 10, 7, 0, 1);
        chance(x, 8, 10, 8, 1, 1);
        chance(x, 8, 0, 0, 1, 1);
        chance(x, 8, 1, 0, 43046721, 100000000);
        Desk.due("gas", x.balloon(0, 0), 59);
        Desk.due("now", x.count(2), 0);
        Desk.rule(x, "0-1");
        chance(x, 3, 10, 0, 1, 1);
    }

    private static void chanceOfLostOnes() {
        BalloonsMoor x = Desk.harbour("", "59,0020");
        Desk.winds(x, "-/-/-/-/-/03/-/-/-/-");
        x.launch(0);
        chance(x, 4, 10, 18, 0, 1);
        chance(x, 4, 5, 18, 15, 16);
        x.hours(3);
        chance(x, 1, 4, 18, 3, 5);
    }

    private static void chanceByTheHour() {
        BalloonsMoor x = Desk.harbour("", "59,0020");
        Desk.winds(x, "22/63/-/-/-/-/-/-/-/-");
        Desk.rule(x, "(h=1)*10");
        x.launch(0);
        chance(x, 2, 10, 0, 0, 1);
        chance(x, 2, 10, 1, 1, 1);
        chance(x, 1, 10, 1, 0, 1);
        chance(x, 2, 5, 1, 1, 2);
    }

    private static void chanceRefused() {
        BalloonsMoor x = Desk.harbour("", "59,0020");
        Desk.due("in the yard", x.chance(0, 1, 1, 1), -2);
        Desk.due("none such", x.chance(1, 1, 1, 1), -1);
        Desk.due("n 0", x.chance(0, 0, 1, 1), -1);
        Desk.due("n 9", x.chance(0, 9, 1, 1), -1);
        Desk.due("p -1", x.chance(0, 1, -1, 1), -1);
        Desk.due("p 11", x.chance(0, 1, 11, 1), -1);
        Desk.due("v -1", x.chance(0, 1, 1, -1), -1);
        Desk.due("v 19", x.chance(0, 1, 1, 19), -1);
        Desk.due("when in the yard", x.when(0, 1), -2);
        Desk.due("when of none such", x.when(1, 1), -1);
        Desk.due("when p 11", x.when(0, 11), -1);
        Desk.due("when p -1", x.when(0, -1), -1);
        Desk.dueRow("no row", x);
    }

    private static void whens() {
        BalloonsMoor x = Desk.harbour("", "59,0020");
        Desk.winds(x, EAST);
        x.launch(0);
        Desk.due("the first of as likely ones", x.when(0, 5), 1);
        Desk.dueRow("the first", x, 1, 1);
        x.hours(5);
        Desk.winds(x, "-/-/-/-/-/61/-/-/-/-");
        Desk.due("back by 3", x.when(0, 10), 3);
        Desk.dueRow("back by 3", x, 1, 1);
        Desk.due("by halves: 8 hours, 3 to 7 of them", x.when(0, 5), 8);
        Desk.dueRow("218 of 256 in lowest terms", x, 109, 128);
        Desk.due("never", x.when(0, 0), 1);
        Desk.dueRow("never", x, 0, 1);
    }

    private static int r;

    private static int draw(int n) {
        r = r * 1103515245 + 12345;
        return (int) ((r & 0xFFFFFFFFL) / 65536 % n);
    }

    /** The same season by acts, told on an object of its own. */
    private static void seasons() {
        for (int seed = -3; seed < 40; seed++) {
            BalloonsMoor x = Desk.harbour("20;31;40", "30,1013;35,0022;45,1111;28,0031");
            BalloonsMoor y = Desk.harbour("20;31;40", "30,1013;35,0022;45,1111;28,0031");
            for (BalloonsMoor z : new BalloonsMoor[] {x, y}) {
                Desk.winds(z, "21/41/53/31/61/-/-/-/-/-");
                z.rain(4);
                z.launch(2);
                z.moor(2, 2);
            }
            int n = 1 + (seed + 3) * 7 % 60;
            r = seed * 77777777;
            int came = 0;
            int lost = 0;
            for (int hour = 0; hour < n; hour++) {
                y.rain(draw(10));
                int b = draw(4);
                if (y.launch(b) < 0) {
                    y.cast(b);
                }
                y.hours(1);
                came += Integer.bitCount((int) y.row(0));
                lost += Integer.bitCount((int) y.row(1));
            }
            Desk.due("season", x.season(seed * 77777777, n), lost);
            Desk.dueRow("season", x, came, Integer.bitCount(y.count(4)));
            Desk.due("rain is as ahead", x.count(7), 4);
            Desk.due("hours to come change nothing", x.count(2), 0);
            Desk.due("where they are", x.count(5), 4);
        }
    }

    private static void seasonByHand() {
        BalloonsMoor x = new BalloonsMoor();
        Desk.due("no balloons", x.season(1, 1), -1);
        Desk.balloons(x, "99,0010");
        Desk.due("n 0", x.season(1, 0), -1);
        Desk.due("n 61", x.season(1, 61), -1);
        Desk.dueRow("no row", x);
        Desk.due("launched", x.season(1, 60), 0);
        Desk.dueRow("free", x, 0, 1);
        Desk.due("still in the yard", x.balloon(0, 7), 0);
        // The first draw of seed 0 is 12345 by 65536, so 0 of 10; of seed 1 it is 1103527590 by 65536 = 16838, so 8.
        Desk.rule(x, "0-(r=8)");
        Desk.due("seed 0", x.season(0, 1), 0);
        Desk.dueRow("seed 0 launches", x, 0, 1);
        Desk.due("seed 1", x.season(1, 1), 0);
        Desk.dueRow("seed 1 does not", x, 0, 0);
    }
}
