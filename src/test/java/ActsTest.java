/** Promises 13 to 21: acts, HOURS, days, and undoing them. */
public final class ActsTest {
    private static final String STILL = "-/-/-/-/-/-/-/-/-/-";

    public static void main(String[] args) {
        launches();
        moorings();
        castings();
        sacks();
        cargo();
        fills();
        hoursDrift();
        hoursLeakAndTear();
        hoursComeDown();
        hoursRefused();
        days();
        dayFaults();
        dayLimits();
        undone();
        undoKeepsFifteen();
        undoForgets();
        Desk.close("ActsTest");
    }

    private static void launches() {
        BalloonsMoor x = Desk.harbour("", "57,1010;8,1110;0,0010");
        Desk.due("high", x.launch(0), 5);
        Desk.due("over the tower", x.balloon(0, 9), 180);
        Desk.due("not in the yard", x.launch(0), -2);
        Desk.due("no lift", x.launch(1), -3);
        Desk.due("lift 0", x.launch(2), 0);
        Desk.due("none such", x.launch(3), -1);
        Desk.due("none such", x.launch(-1), -1);
        Desk.due("only one is in the yard", x.count(3), 2);
    }

    private static void moorings() {
        BalloonsMoor x = Desk.harbour("40;60;50;50", "55,0010;55,0020;55,0010");
        Desk.due("no ring", x.moor(0, 4), -1);
        Desk.due("no ring", x.moor(0, -1), -1);
        Desk.due("no balloon", x.moor(3, 0), -1);
        Desk.due("in the yard", x.moor(0, 0), -2);
        x.launch(0);
        Desk.due("one lower", x.moor(0, 0), 4);
        Desk.due("moored", x.moor(0, 0), -2);
        x.launch(1);
        Desk.due("there is another", x.moor(1, 0), -5);
        Desk.due("one higher", x.moor(1, 1), 6);
        x.launch(2);
        Desk.winds(x, "-/-/-/-/-/31/-/-/-/-");
        x.hours(1);
        Desk.due("too far", x.moor(2, 2), -3);
        Desk.due("too far comes first", x.moor(2, 0), -3);
        Desk.balloons(x, "70,0020;20,0010");
        x.launch(3);
        x.launch(4);
        Desk.due("too high comes ahead of another", x.moor(3, 0), -4);
        Desk.due("too low", x.moor(4, 0), -4);
        Desk.due("as far as the rope", ropeLength(), 5);
    }

    private static int ropeLength() {
        BalloonsMoor x = Desk.harbour("50", "55,0020");
        x.launch(0);
        Desk.winds(x, "-/-/-/-/-/71/-/-/-/-");
        x.hours(1);
        return x.moor(0, 0);
    }

    private static void castings() {
        BalloonsMoor x = Desk.harbour("40;50", "55,0020");
        Desk.winds(x, "-/-/-/-/-/71/-/-/-/-");
        Desk.due("none such", x.cast(1), -1);
        Desk.due("in the yard", x.cast(0), -2);
        x.launch(0);
        x.hours(1);
        Desk.due("free", x.cast(0), -2);
        x.moor(0, 1);
        Desk.due("at which ring", x.cast(0), 1);
        Desk.due("free", x.balloon(0, 7), 1);
        Desk.due("over the tower", x.balloon(0, 9), 180);
        Desk.due("nobody is there", x.ring(1, 2), -1);
        Desk.due("not moored", x.cast(0), -2);
    }

    private static void sacks() {
        BalloonsMoor x = Desk.harbour("90;50", "99,4010;99,9010");
        Desk.due("n 0", x.sacks(0, 0), -1);
        Desk.due("none such", x.sacks(2, 1), -1);
        Desk.due("more", x.sacks(0, 3), 7);
        Desk.due("above 9", x.sacks(0, 3), -3);
        Desk.due("9", x.sacks(0, 2), 9);
        x.sacks(0, -2);
        Desk.due("fewer", x.sacks(0, -5), 2);
        Desk.due("below 0", x.sacks(0, -3), -3);
        Desk.due("least", x.sacks(0, Integer.MIN_VALUE), -3);
        Desk.due("most", x.sacks(0, Integer.MAX_VALUE), -3);
        x.launch(0);
        Desk.due("free: none more", x.sacks(0, 1), -2);
        Desk.due("free: none more, too many", x.sacks(0, 9), -2);
        Desk.due("free: fewer", x.sacks(0, -1), 1);
        x.moor(0, 0);
        Desk.due("moored: more", x.sacks(0, 2), 3);
        Desk.due("moored: fewer", x.sacks(0, -3), 0);
        x.launch(1);
        Desk.winds(x, "-/-/-/-/-/23/-/-/-/-");
        x.hours(4);
        Desk.due("lost", x.balloon(1, 7), 3);
        Desk.due("lost: fewer", x.sacks(1, -1), -2);
        Desk.due("lost: more", x.sacks(1, 1), -2);
        Desk.due("lost: n 0", x.sacks(1, 0), -1);
    }

    private static void cargo() {
        BalloonsMoor x = Desk.harbour("90", "99,0310");
        Desk.due("was", x.cargo(0, 9), 3);
        Desk.due("was", x.cargo(0, 0), 9);
        Desk.due("10", x.cargo(0, 10), -1);
        Desk.due("-1", x.cargo(0, -1), -1);
        Desk.due("none such", x.cargo(1, 1), -1);
        x.launch(0);
        Desk.due("free", x.cargo(0, 1), -2);
        Desk.due("free, 10", x.cargo(0, 10), -1);
        x.moor(0, 0);
        Desk.due("moored", x.cargo(0, 1), 0);
        Desk.due("weight", x.balloon(0, 5), 4);
    }

    private static void fills() {
        BalloonsMoor x = Desk.harbour("90", "99,0010");
        Desk.due("was", x.fill(0, 0), 99);
        Desk.due("was", x.fill(0, 99), 0);
        Desk.due("100", x.fill(0, 100), -1);
        Desk.due("-1", x.fill(0, -1), -1);
        Desk.due("none such", x.fill(1, 1), -1);
        x.launch(0);
        Desk.due("free", x.fill(0, 1), -2);
        x.moor(0, 0);
        Desk.due("moored", x.fill(0, 1), -2);
        Desk.due("others first", x.fill(0, 100), -1);
    }

    private static void hoursDrift() {
        int[] east = {0, 1, 1, 1, 0, -1, -1, -1};
        int[] south = {-1, -1, 0, 1, 1, 1, 0, -1};
        for (int way = 0; way < 8; way++) {
            for (int strong = 1; strong <= 3; strong++) {
                BalloonsMoor x = Desk.harbour("", "55,0010");
                Desk.winds(x, "-/-/-/-/-/" + way + strong + "/-/-/-/-");
                x.launch(0);
                Desk.due("hours", x.hours(3), 3);
                Desk.due("way " + way, x.balloon(0, 9),
                        19 * (9 + 3 * strong * south[way]) + 9 + 3 * strong * east[way]);
                x.hours(1);
                Desk.due("beyond 9", x.balloon(0, 7), strong == 3 ? 3 : 1);
                Desk.dueRow("lost", x, 0, strong == 3 ? 1 : 0);
            }
        }
    }

    private static void hoursLeakAndTear() {
        BalloonsMoor x = Desk.harbour("40;50;60;55", "55,0013;55,0010;65,0010;55,0012;50,0019");
        Desk.winds(x, STILL);
        x.launch(0);
        x.launch(1);
        x.launch(2);
        x.launch(3);
        x.moor(0, 0);
        x.moor(1, 1);
        x.moor(2, 2);
        Desk.due("hour", x.hours(1), 1);
        Desk.due("leaks and is touched", x.balloon(0, 0), 51);
        Desk.due("touched by two", x.balloon(1, 0), 53);
        Desk.due("touched by one", x.balloon(2, 0), 64);
        Desk.due("free: leaks alone", x.balloon(3, 0), 53);
        Desk.due("in the yard nothing leaks", x.balloon(4, 0), 50);
        x.moor(3, 3);
        x.hours(1);
        Desk.due("another side", x.balloon(3, 0), 51);
        Desk.due("touched by two", x.balloon(1, 0), 51);
        Desk.rule(x, "1");
        x.hours(48);
        Desk.due("0 at least", x.balloon(0, 0), 0);
        Desk.due("now", x.count(2), 50);
    }

    private static void hoursComeDown() {
        BalloonsMoor x = Desk.harbour("00", "2,0011;2,0021;2,0021;50,0010");
        Desk.winds(x, "11/-/-/-/-/-/-/-/-/-");
        for (int b = 0; b < 4; b++) {
            x.launch(b);
        }
        x.moor(0, 0);
        Desk.rule(x, "g-1");
        Desk.due("hours", x.hours(1), 1);
        Desk.dueRow("lift 0 stays up", x, 0, 0);
        Desk.due("hours", x.hours(1), 2);
        Desk.dueRow("a moored one to the yard; free ones 4 off are lost", x, 1, 6);
        Desk.due("yard", x.count(3), 1);
        Desk.due("lost", x.count(6), 6);
        Desk.due("free", x.count(4), 8);
        Desk.due("no ring", x.balloon(0, 8), -1);
        BalloonsMoor y = Desk.harbour("", "1,0011");
        Desk.winds(y, "11/-/-/-/-/-/-/-/-/-");
        y.launch(0);
        Desk.rule(y, "g-1");
        y.hours(1);
        Desk.dueRow("2 off, to the yard", y, 1, 0);
        Desk.due("no cell", y.balloon(0, 9), -1);
        BalloonsMoor three = Desk.harbour("", "1,0011");
        Desk.winds(three, "03/-/-/-/-/-/-/-/-/-");
        three.launch(0);
        Desk.rule(three, "g-1");
        three.hours(1);
        Desk.dueRow("3 off, lost", three, 0, 1);
        BalloonsMoor z = Desk.harbour("", "9,0010");
        z.launch(0);
        Desk.rule(z, "0-(h=1)");
        z.hours(1);
        Desk.dueRow("by the hour behind it", z, 1, 0);
    }

    private static void hoursRefused() {
        BalloonsMoor x = Desk.harbour("", "9,0010");
        Desk.due("49", x.hours(49), -1);
        Desk.due("-1", x.hours(-1), -1);
        Desk.dueRow("no row", x);
        Desk.due("no act", x.count(9), 0);
        Desk.due("0", x.hours(0), 0);
        Desk.dueRow("a row", x, 0, 0);
        Desk.due("an act", x.count(9), 1);
        Desk.due("48", x.hours(48), 48);
        x.touches();
        Desk.due("refused", x.hours(50), -1);
        Desk.dueRow("the row stays", x);
    }

    private static void days() {
        BalloonsMoor x = Desk.harbour("50;40", "55,2011;50,0011");
        Desk.due("nothing", Desk.day(x, ""), 0);
        Desk.dueRow("nothing", x, 0, 0);
        Desk.due("no act", x.count(9), 0);
        Desk.due("day", Desk.day(x, "s0-1;l0;m00;h12;c0;s0-1;h3"), 7);
        Desk.dueRow("day", x, 0, 0);
        Desk.due("one act", x.count(9), 1);
        Desk.due("now", x.count(2), 15);
        Desk.due("gas", x.balloon(0, 0), 40);
        Desk.due("sacks", x.balloon(0, 1), 0);
        Desk.due("free", x.balloon(0, 7), 1);
        Desk.due("undo", x.undo(), 0);
        Desk.due("as one", x.balloon(0, 0) * 1000 + x.balloon(0, 1) * 100 + x.balloon(0, 7) * 10 + x.count(2), 55200);
        Desk.due("refused", Desk.day(x, "h2;c0;h1"), 1);
        Desk.dueRow("refused", x, 1, 0);
        Desk.due("now", x.count(2), 2);
        Desk.due("at once", Desk.day(x, "l7;h1"), 0);
        Desk.dueRow("at once", x, 1, 0);
        Desk.due("no act", x.count(9), 1);
        Desk.due("49 hours", Desk.day(x, "h49"), 0);
        Desk.due("48 hours", Desk.day(x, "h48"), 1);
        x.undo();
        Desk.due("0 hours", Desk.day(x, "h0;h00;h02"), 3);
        Desk.due("now", x.count(2), 4);
        Desk.due("0 sacks", Desk.day(x, "s0+0"), 0);
        Desk.due("ring 9", Desk.day(x, "l1;m19"), 1);
        Desk.winds(x, "-/-/-/-/23/23/-/-/-/-");
        Desk.due("lost", Desk.day(x, "l0;h2;h2;s1-1"), 3);
        Desk.dueRow("two lost", x, 1, 2);
    }

    private static void fault(BalloonsMoor x, String day, int p) {
        Desk.due("day " + day, Desk.day(x, day), -1 - p);
    }

    private static void dayFaults() {
        BalloonsMoor x = Desk.harbour("", "50,0011");
        x.hours(1);
        x.touches();
        fault(x, "x", 0);
        fault(x, ";", 0);
        fault(x, "h1;", 3);
        fault(x, "h1;;", 3);
        fault(x, "h", 1);
        fault(x, "h123", 3);
        fault(x, "hx", 1);
        fault(x, "l", 1);
        fault(x, "l00", 2);
        fault(x, "m0", 2);
        fault(x, "m012", 3);
        fault(x, "c;", 1);
        fault(x, "s", 1);
        fault(x, "s0", 2);
        fault(x, "s01", 2);
        fault(x, "s0+", 3);
        fault(x, "s0-12", 4);
        fault(x, "s0*1", 2);
        fault(x, "h1 h1", 2);
        Desk.due("nothing is done", x.count(2), 1);
        Desk.due("the row stays", x.count(10), 0);
        Desk.due("acts stay", x.count(9), 1);
    }

    private static void dayLimits() {
        BalloonsMoor x = Desk.harbour("", "50,0011");
        String acts19 = "h0;h0;h0;h0;h0;h0;h0;h0;h0;h0;h0;h0;h0;h0;h0;h0;h0;h0;h0;";
        Desk.due("57 signs", acts19.length(), 57);
        Desk.due("20 acts", Desk.day(x, acts19 + "h1"), 20);
        Desk.due("60 signs", Desk.day(x, acts19 + "h10"), 20);
        fault(x, acts19 + "h1;", 60);
        fault(x, acts19 + "h1;h1", 60);
        fault(x, acts19 + "h101", 60);
        fault(x, acts19 + "m000", 60);
        fault(x, acts19 + "s0+1", 60);
        fault(x, acts19 + "h1x1", 59);
        fault(x, acts19 + "l00000", 59);
        Desk.due("now", x.count(2), 11);
    }

    private static void undone() {
        BalloonsMoor x = Desk.harbour("50", "55,2051;50,0011");
        Desk.winds(x, "-/-/-/-/21/-/-/-/-/-");
        Desk.due("none", x.undo(), -1);
        x.cargo(0, 1);
        x.fill(0, 56);
        x.sacks(0, -1);
        x.launch(0);
        x.hours(2);
        x.moor(0, 0);
        x.cast(0);
        x.rain(5);
        x.sheet(2, 2, 1, 1);
        Desk.due("seven", x.count(9), 7);
        Desk.due("cast", x.undo(), 6);
        Desk.due("moored again", x.balloon(0, 8), 0);
        Desk.due("gas as ahead of it", x.balloon(0, 0), 54);
        Desk.due("rain stays", x.count(7), 5);
        Desk.due("moor", x.undo(), 5);
        Desk.due("where it was", x.balloon(0, 9), 182);
        Desk.due("hours", x.undo(), 4);
        Desk.due("now", x.count(2), 0);
        Desk.due("where it was", x.balloon(0, 9), 180);
        Desk.due("launch", x.undo(), 3);
        Desk.due("in the yard", x.balloon(0, 7), 0);
        Desk.due("sacks", x.undo(), 2);
        Desk.due("sacks", x.balloon(0, 1), 2);
        Desk.due("fill", x.undo(), 1);
        Desk.due("gas", x.balloon(0, 0), 55);
        Desk.due("cargo", x.undo(), 0);
        Desk.due("cargo", x.balloon(0, 2), 0);
        Desk.due("none left", x.undo(), -1);
    }

    private static void undoKeepsFifteen() {
        BalloonsMoor x = Desk.harbour("", "50,0010");
        for (int i = 1; i <= 40; i++) {
            x.hours(1);
            x.hours(-1);
            x.cast(0);
            Desk.due("kept", x.count(9), Math.min(i, 15));
        }
        for (int i = 14; i >= 0; i--) {
            Desk.due("undo", x.undo(), i);
            Desk.due("now", x.count(2), 25 + i);
        }
        Desk.due("no more", x.undo(), -1);
        Desk.due("now", x.count(2), 25);
    }

    private static void undoForgets() {
        BalloonsMoor x = Desk.harbour("", "50,0010");
        x.hours(1);
        Desk.balloons(x, "");
        Desk.due("an empty one does not", x.count(9), 1);
        Desk.balloons(x, "50");
        Desk.due("a refused one does not", x.count(9), 1);
        Desk.tower(x, "5");
        Desk.due("a refused tower does not", x.count(9), 1);
        Desk.due("a refused again does not", x.again(0), false);
        Desk.due("acts", x.count(9), 1);
        x.keep(0);
        Desk.due("keep does not", x.count(9), 1);
        x.again(0);
        Desk.due("again does", x.count(9), 0);
        x.hours(1);
        Desk.balloons(x, "50,0010");
        Desk.due("balloons do", x.undo(), -1);
        x.hours(1);
        Desk.tower(x, "");
        Desk.due("a tower does", x.undo(), -1);
    }
}
