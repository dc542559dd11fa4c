/** Promises 27 to 29: berths. */
public final class BerthsTest {
    public static void main(String[] args) {
        berths();
        berthsOfAll();
        served();
        yields();
        Desk.close("BerthsTest");
    }

    private static void berths() {
        BalloonsMoor x = Desk.harbour("30;40;50;31", "10,1010;10,2010;10,1010");
        Desk.due("none told", x.berths(0), 1);
        Desk.dueRow("none told", x);
        Desk.due("one", x.berths(2), 4);
        Desk.dueRow("one", x, 0);
        Desk.due("two like ones", x.berths(5), 8);
        Desk.dueRow("two like ones", x, 0, 2);
        Desk.due("the heavier below", x.berths(3), 7);
        Desk.dueRow("the first can't be below", x, 0, 3);
        Desk.due("three", x.berths(7), 4);
        Desk.dueRow("three", x, 0, 3, 2);
        Desk.due("none such", x.berths(8), -1);
        Desk.due("none such", x.berths(-1), -1);
        Desk.dueRow("the row stays", x, 0, 3, 2);
        Desk.balloons(x, "10,0010");
        Desk.due("four", x.berths(15), 0);
        Desk.dueRow("without", x);
        x.sacks(1, -2);
        Desk.due("weight as it is", x.berths(3), 7);
        Desk.dueRow("weight as it is", x, 0, 2);
    }

    private static void berthsOfAll() {
        BalloonsMoor x = Desk.harbour("00;01;02;03;04;05;06;07", "9,1010;9,2010;9,3010;9,4010;9,5010;9,6010");
        Desk.due("all", x.berths(63), 8 * 7 * 6 * 5 * 4 * 3);
        Desk.dueRow("all", x, 0, 1, 2, 3, 4, 5);
        x.fill(0, 90);
        x.launch(0);
        x.moor(0, 0);
        Desk.due("rings as if free", x.berths(2), 8);
        BalloonsMoor y = new BalloonsMoor();
        Desk.balloons(y, "9,1010");
        Desk.due("no rings", y.berths(1), 0);
    }

    private static void served() {
        BalloonsMoor x = Desk.harbour("30;40;31", "10,1010;10,2010;10,3010");
        Desk.due("all told", x.served(7), 2);
        Desk.dueRow("the least", x, 3);
        Desk.due("two", x.served(6), 2);
        Desk.dueRow("two", x, 6);
        Desk.due("none", x.served(0), 0);
        Desk.dueRow("none", x, 0);
        Desk.due("none such", x.served(8), -1);
        Desk.due("none such", x.served(Integer.MIN_VALUE), -1);
        Desk.dueRow("the row stays", x, 0);
        Desk.tower(x, "");
        Desk.balloons(x, "10,1010");
        Desk.due("no rings", x.served(1), 0);
        Desk.dueRow("no rings", x, 0);
    }

    private static void yields() {
        BalloonsMoor x = Desk.harbour("50;60;70;30;10;51", "60,1010;60,2010;60,0110;60,1010");
        Desk.due("all", x.yields(0), 63);
        Desk.dueRow("all", x, 6);
        x.launch(0);
        x.moor(0, 0);
        Desk.due("the heavier one below or elsewhere", x.yields(1), 8 + 16 + 32);
        Desk.dueRow("how many", x, 3);
        Desk.due("the lighter one above or elsewhere", x.yields(2), 4 + 32);
        Desk.due("a like one", x.yields(3), 4 + 8 + 16 + 32);
        Desk.due("itself: its own ring is not free", x.yields(0), 63 - 1);
        Desk.due("none such", x.yields(4), -1);
        Desk.due("none such", x.yields(-1), -1);
        Desk.dueRow("the row stays", x, 5);
    }
}
