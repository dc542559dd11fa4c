/** Promises 22 to 26: who touches and breaches, HOURS to come, rises. */
public final class ComingTest {
    public static void main(String[] args) {
        touches();
        breaches();
        drifts();
        driftsRefused();
        sinks();
        rises();
        Desk.close("ComingTest");
    }

    private static void hang(BalloonsMoor x, int... rings) {
        for (int b = 0; b < rings.length; b++) {
            x.launch(b);
            x.moor(b, rings[b]);
        }
    }

    private static void touches() {
        BalloonsMoor x = Desk.harbour("50;40;60;51;50", "55,0010;55,0010;55,0010;55,0010;55,0010");
        x.hours(0);
        Desk.due("none", x.touches(), 0);
        Desk.dueRow("none", x);
        hang(x, 3, 2, 1);
        Desk.due("heights 2 apart, another side", x.touches(), 0);
        x.launch(4);
        Desk.due("free ones touch nobody", x.touches(), 0);
        x.moor(4, 0);
        Desk.due("in between", x.touches(), 2);
        Desk.dueRow("first", x, 1, 4);
        x.launch(3);
        x.moor(3, 4);
        Desk.due("like heights too", x.touches(), 5);
        Desk.dueRow("first", x, 1, 3);
    }

    private static void breaches() {
        BalloonsMoor x = Desk.harbour("40;60;50;51", "60,1010;59,0110;55,0010;60,1010");
        Desk.due("none", x.breaches(), 0);
        Desk.dueRow("none", x);
        hang(x, 1, 0, 3, 2);
        Desk.due("5 above 4, 5 above 5 is none", x.breaches(), 2);
        Desk.dueRow("least", x, 0, 1);
        x.cast(0);
        Desk.due("one", x.breaches(), 1);
        Desk.dueRow("the higher first", x, 3, 1);
        x.cargo(1, 9);
        Desk.due("heavier below", x.breaches(), 0);
        Desk.dueRow("nothing", x);
        BalloonsMoor y = Desk.harbour("50;50", "60,1010;55,0010");
        hang(y, 0, 1);
        Desk.due("like heights", y.breaches(), 0);
    }

    private static void drifts() {
        BalloonsMoor x = Desk.harbour("50;60", "55,0023;65,0010;65,0010;49,0021");
        Desk.winds(x, "31/-/-/21/-/01/11/-/-/-");
        hang(x, 0, 1);
        x.launch(3);
        Desk.due("moored", x.drifts(0, 2), 2);
        Desk.dueRow("moored", x, 47, 0);
        Desk.due("free", x.drifts(3, 12), 1);
        Desk.dueRow("no wind, then eastward by 1 from 39 on", x, 37, 182);
        Desk.due("yard", x.drifts(2, 60), 0);
        Desk.dueRow("yard", x, 65, -1);
        Desk.due("lost", x.drifts(3, 60), 3);
        Desk.dueRow("lost beyond 9, where nothing leaks any more", x, 30, -1);
        Desk.due("now", x.drifts(1, 0), 2);
        Desk.dueRow("now", x, 65, 1);
        Desk.due("nothing changes", x.count(2), 0);
        Desk.due("nothing changes", x.balloon(3, 0), 49);
        Desk.due("nothing changes", x.count(9), 5);
    }

    private static void driftsRefused() {
        BalloonsMoor x = Desk.harbour("50", "55,0023");
        x.hours(1);
        Desk.due("61", x.drifts(0, 61), -1);
        Desk.due("-1", x.drifts(0, -1), -1);
        Desk.due("none such", x.drifts(1, 1), -1);
        Desk.due("none such", x.drifts(-1, 1), -1);
        Desk.dueRow("the row stays", x, 0, 0);
    }

    private static void sinks() {
        BalloonsMoor x = Desk.harbour("50", "20,0012;30,0010;20,0012;30,0010;50,0091");
        Desk.due("yard", x.sinks(0), -3);
        Desk.due("none such", x.sinks(5), -1);
        x.launch(0);
        x.launch(1);
        x.launch(2);
        x.launch(4);
        x.moor(4, 0);
        x.rain(2);
        Desk.due("to the yard", x.sinks(0), 10);
        Desk.dueRow("to the yard", x, 0);
        Desk.due("never", x.sinks(1), -2);
        Desk.dueRow("the row stays", x, 0);
        Desk.due("moored", x.sinks(4), 49);
        Desk.dueRow("moored", x, 0);
        Desk.winds(x, "01/01/01/01/-/-/-/-/-/-");
        Desk.due("beyond", x.sinks(1), 10);
        Desk.dueRow("lost", x, 3);
        Desk.winds(x, "01/-/-/-/-/-/-/-/-/-");
        Desk.due("drifts when low", x.sinks(2), 10);
        Desk.dueRow("too far off", x, 3);
        Desk.due("nothing changes", x.balloon(0, 0), 20);
        x.hours(12);
        Desk.due("lost", x.sinks(2), -3);
        Desk.rule(x, "g");
        Desk.due("99", sinksIn(99), 99);
        Desk.due("100", sinksIn(100), -2);
    }

    /** One that leaks 1 an hour from 99 and has lift below 0 behind some hours. */
    private static int sinksIn(int hours) {
        BalloonsMoor x = Desk.harbour("", "99,0011");
        x.launch(0);
        Desk.rule(x, hours == 100 ? "g" : "g-1");
        return x.sinks(0);
    }

    private static void rises() {
        BalloonsMoor x = Desk.harbour("90", "60,5020");
        Desk.due("none", x.rises(0, 3), 0);
        Desk.dueRow("none", x, 3);
        Desk.due("one", x.rises(0, 4), 1);
        Desk.dueRow("one", x, 4);
        Desk.due("all", x.rises(0, 6), 5);
        Desk.dueRow("all", x, 6);
        Desk.due("not by all", x.rises(0, 7), -2);
        Desk.due("v 0", x.rises(0, 0), 0);
        Desk.due("v 10", x.rises(0, 10), -1);
        Desk.due("v -1", x.rises(0, -1), -1);
        Desk.due("none such", x.rises(1, 1), -1);
        Desk.dueRow("the row stays", x, 3);
        Desk.rule(x, "(s=2)*70+(s=4)*99");
        Desk.due("a rule of its own", x.rises(0, 5), 1);
        Desk.dueRow("high", x, 9);
        Desk.due("not changed", x.balloon(0, 1), 5);
        x.launch(0);
        Desk.winds(x, "03/-/-/-/-/-/-/-/-/-");
        x.hours(4);
        Desk.due("lost", x.rises(0, 1), -3);
        Desk.due("v first", x.rises(0, 10), -1);
    }
}
