/** Promises 42 to 45: what is kept, counts, the ROW. */
public final class KeptTest {
    public static void main(String[] args) {
        kept();
        keptRefused();
        counts();
        rows();
        Desk.close("KeptTest");
    }

    private static void kept() {
        BalloonsMoor x = Desk.harbour("50", "55,1121;55,0010");
        Desk.winds(x, "-/-/-/-/21/-/-/-/-/-");
        x.launch(0);
        Desk.due("keep", x.keep(2), true);
        x.hours(1);
        Desk.due("keep another", x.keep(0), true);
        x.moor(0, 0);
        x.cargo(0, 5);
        x.sacks(0, 3);
        x.fill(1, 3);
        x.rain(3);
        x.mark(0, 0, 1);
        Desk.due("again", x.again(0), true);
        Desk.due("now", x.count(2), 1);
        Desk.due("where", x.balloon(0, 9), 181);
        Desk.due("sacks", x.balloon(0, 1), 1);
        Desk.due("cargo", x.balloon(0, 2), 1);
        Desk.due("gas", x.balloon(1, 0), 55);
        Desk.due("nothing to undo", x.undo(), -1);
        Desk.due("rain stays", x.count(7), 3);
        Desk.due("marks stay", x.count(8), 1);
        Desk.due("again", x.again(2), true);
        Desk.due("now", x.count(2), 0);
        Desk.due("where", x.balloon(0, 9), 180);
        Desk.due("more than once", x.again(0), true);
        Desk.due("now", x.count(2), 1);
        x.hours(4);
        Desk.due("keep over", x.keep(0), true);
        x.hours(4);
        Desk.due("again", x.again(0), true);
        Desk.due("now", x.count(2), 5);
    }

    private static void keptRefused() {
        BalloonsMoor x = Desk.harbour("50", "55,1121");
        Desk.due("keep -1", x.keep(-1), false);
        Desk.due("keep 3", x.keep(3), false);
        Desk.due("nothing kept", x.again(1), false);
        Desk.due("again -1", x.again(-1), false);
        Desk.due("again 3", x.again(3), false);
        x.keep(1);
        Desk.due("another", x.again(0), false);
        Desk.balloons(x, "");
        Desk.balloons(x, "5");
        Desk.due("nobody came", x.again(1), true);
        Desk.balloons(x, "5,0010");
        Desk.due("one came", x.again(1), false);
        x.keep(1);
        Desk.due("kept since", x.again(1), true);
        Desk.tower(x, "50");
        Desk.due("another tower", x.again(1), false);
    }

    private static void counts() {
        BalloonsMoor x = Desk.harbour("50;00", "55,0021;55,0010;5,0010;55,0010");
        Desk.winds(x, "03/-/-/-/-/-/-/-/-/-");
        x.launch(0);
        x.launch(1);
        x.launch(2);
        x.moor(0, 0);
        x.hours(4);
        x.rain(6);
        x.mark(0, 1, 1);
        Desk.tell(x, "abcde");
        int[] want = {2, 4, 4, 8, 2, 1, 4, 6, 1, 5, 2, 5};
        for (int what = 0; what < want.length; what++) {
            Desk.due("count " + what, x.count(what), want[what]);
        }
        Desk.due("count 12", x.count(12), -100);
        Desk.due("count -1", x.count(-1), -100);
        Desk.due("count least", x.count(Integer.MIN_VALUE), -100);
    }

    private static void rows() {
        BalloonsMoor x = Desk.harbour("50;00", "55,0021");
        Desk.dueNone("no row", () -> x.row(0));
        x.rests(4);
        Desk.due("row 0", x.row(0), 4);
        Desk.due("row 1", x.row(1), 4);
        Desk.dueNone("row 2", () -> x.row(2));
        Desk.dueNone("row -1", () -> x.row(-1));
        Desk.dueNone("row most", () -> x.row(Integer.MAX_VALUE));
        x.launch(0);
        x.rain(3);
        x.keep(0);
        Desk.balloons(x, "1,0010");
        Desk.dueRow("calls that tell none leave it", x, 4, 4);
    }
}
