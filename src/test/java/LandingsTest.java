/** Promises 30 and 31: landings. */
public final class LandingsTest {
    public static void main(String[] args) {
        atOnce();
        byDrops();
        byHours();
        leastRow();
        notWhileDown();
        notBeyondTheEdge();
        refused();
        nearest();
        Desk.close("LandingsTest");
    }

    private static void atOnce() {
        BalloonsMoor x = Desk.harbour("50;70", "60,3010");
        x.launch(0);
        Desk.due("at once", x.lands(0, 0, 0), 0);
        Desk.dueRow("at once", x, 0, 0);
        Desk.due("drops at last", x.lands(0, 1, 0), 3);
        Desk.dueRow("drops at last", x, 0, 3);
        Desk.due("nothing changes", x.balloon(0, 1), 3);
        Desk.due("not an act", x.count(9), 1);
    }

    private static void byDrops() {
        BalloonsMoor x = Desk.harbour("30;50;60", "42,2010");
        Desk.winds(x, "-/-/-/21/61/-/-/-/-/-");
        x.launch(0);
        x.hours(2);
        Desk.due("at 2, 0", x.balloon(0, 9), 182);
        Desk.due("back by the wind of 4", x.lands(0, 1, 6), 2);
        Desk.dueRow("back by the wind of 4", x, 1, 2, 0);
        Desk.due("in no hour", x.lands(0, 1, 0), -2);
        Desk.due("never so high", x.lands(0, 2, 6), -2);
        Desk.dueRow("the row stays", x, 1, 2, 0);
    }

    private static void byHours() {
        BalloonsMoor x = Desk.harbour("30;10", "49,1013");
        x.launch(0);
        Desk.due("gas leaks till it is low enough", x.lands(0, 1, 6), 0);
        Desk.dueRow("five hours", x, 5, 0, 0, 0, 0, 0, 0);
        Desk.due("not in four", x.lands(0, 1, 4), -2);
        BalloonsMoor y = Desk.harbour("50", "50,0010");
        Desk.rule(y, "(h=3)*60");
        y.launch(0);
        Desk.due("by the hour of the rule", y.lands(0, 0, 6), 0);
        Desk.dueRow("three hours", y, 3, 0, 0, 0, 0);
        y.hours(2);
        Desk.due("an hour from now", y.lands(0, 0, 1), 0);
        Desk.dueRow("an hour from now", y, 1, 0, 0);
    }

    private static void leastRow() {
        BalloonsMoor x = Desk.harbour("50", "59,3020");
        Desk.winds(x, "-/-/-/-/61/-/-/-/-/-");
        x.launch(0);
        x.hours(2);
        Desk.due("within the rope", x.lands(0, 0, 6), 0);
        Desk.dueRow("within the rope", x, 0, 0);
        BalloonsMoor y = Desk.harbour("60", "59,3020");
        Desk.winds(y, "-/-/-/-/61/-/-/-/-/-");
        y.launch(0);
        Desk.due("two hours drift it no further than the rope", y.lands(0, 0, 2), 2);
        Desk.dueRow("fewest hours first", y, 0, 2);
        BalloonsMoor z = Desk.harbour("50", "50,4010");
        Desk.winds(z, "-/-/-/21/61/-/-/-/-/-");
        z.launch(0);
        z.hours(2);
        Desk.due("late drops are the lesser row", z.lands(0, 0, 6), 2);
        Desk.dueRow("late drops are the lesser row", z, 1, 2, 0);
    }

    private static void notWhileDown() {
        BalloonsMoor x = Desk.harbour("00", "9,1011");
        x.launch(0);
        Desk.winds(x, "21/-/-/-/-/-/-/-/-/-");
        x.hours(2);
        Desk.winds(x, "61/-/-/-/-/-/-/-/-/-");
        x.hours(0);
        Desk.due("2 off", x.balloon(0, 9), 182);
        Desk.due("an hour is enough", x.lands(0, 0, 6), 0);
        Desk.dueRow("an hour is enough", x, 1, 0, 0);
        x.rain(3);
        Desk.due("lift would be below 0: a sack is dropped", x.lands(0, 0, 6), 1);
        Desk.dueRow("ahead of the hour", x, 1, 1, 0);
        Desk.due("nearest too", x.nearest(0, 6), 0);
        Desk.dueRow("nearest too", x, 1, 1);
        x.rain(9);
        Desk.due("below 0 even so", x.lands(0, 0, 6), -2);
        Desk.due("nearest too", x.nearest(0, 6), -2);
    }

    private static void notBeyondTheEdge() {
        BalloonsMoor x = Desk.harbour("20", "9,0090");
        Desk.rule(x, "h-1");
        Desk.winds(x, "21/61/-/-/-/-/-/-/-/-");
        x.hours(1);
        x.launch(0);
        x.hours(9);
        Desk.due("at the edge", x.balloon(0, 9), 189);
        Desk.due("the wind would turn an hour too late", x.lands(0, 0, 6), -2);
        Desk.due("nearest too", x.nearest(0, 6), -2);
        Desk.rule(x, "h");
        Desk.due("in time", x.lands(0, 0, 6), 0);
        Desk.dueRow("in time", x, 0, 0);
    }

    private static void refused() {
        BalloonsMoor x = Desk.harbour("50;60", "55,0010;55,0010");
        Desk.due("none such", x.lands(2, 0, 1), -1);
        Desk.due("no ring", x.lands(0, 2, 1), -1);
        Desk.due("no ring", x.lands(0, -1, 1), -1);
        Desk.due("7 hours", x.lands(0, 0, 7), -1);
        Desk.due("-1 hours", x.lands(0, 0, -1), -1);
        Desk.due("in the yard", x.lands(0, 0, 1), -3);
        x.launch(0);
        x.moor(0, 0);
        Desk.due("not free comes ahead of another", x.lands(1, 0, 1), -3);
        x.launch(1);
        Desk.due("another is there", x.lands(1, 0, 1), -4);
        Desk.due("moored", x.lands(0, 1, 1), -3);
        Desk.dueRow("no row", x);
    }

    private static void nearest() {
        BalloonsMoor x = Desk.harbour("90;70;60;60;50", "55,3010;55,0010");
        Desk.due("in the yard", x.nearest(0, 1), -3);
        x.launch(0);
        Desk.due("two do by none less than 1", x.nearest(0, 1), 4);
        Desk.dueRow("sacks, hours", x, 0, 0);
        x.launch(1);
        x.moor(1, 4);
        Desk.due("the first of the fewest", x.nearest(0, 1), 2);
        Desk.dueRow("sacks, hours", x, 2, 0);
        Desk.due("7", x.nearest(0, 7), -1);
        Desk.due("-1", x.nearest(0, -1), -1);
        Desk.due("none such", x.nearest(2, 1), -1);
        Desk.winds(x, "-/-/-/-/23/-/-/-/-/-");
        x.hours(1);
        Desk.due("at none", x.nearest(0, 6), -2);
        Desk.dueRow("the row stays", x, 0, 0);
        Desk.tower(x, "");
        Desk.balloons(x, "9,0010");
        x.launch(0);
        Desk.due("no rings", x.nearest(0, 6), -2);
    }
}
