/** Promises 8 to 12: what RINGS and BALLOONS are, RAIN, sheets. */
public final class LooksTest {
    public static void main(String[] args) {
        rings();
        balloons();
        lifts();
        rain();
        sheets();
        sheetsRefused();
        Desk.close("LooksTest");
    }

    private static void rings() {
        BalloonsMoor x = Desk.harbour("35;40", "");
        Desk.balloons(x, "45,1121");
        Desk.winds(x, "-/-/-/73/-/-/-/-/-/-");
        Desk.due("height", x.ring(0, 0), 3);
        Desk.due("side", x.ring(0, 1), 5);
        Desk.due("empty", x.ring(0, 2), -1);
        Desk.due("whither", x.ring(0, 3), 7);
        Desk.due("strong", x.ring(0, 4), 3);
        Desk.due("no wind", x.ring(1, 3), -1);
        Desk.due("not strong", x.ring(1, 4), 0);
        x.launch(0);
        x.moor(0, 1);
        Desk.due("there", x.ring(1, 2), 0);
        Desk.dueNone("ring 2", () -> x.ring(2, 0));
        Desk.dueNone("ring -1", () -> x.ring(-1, 0));
        Desk.dueNone("ring least", () -> x.ring(Integer.MIN_VALUE, 0));
        Desk.dueNone("what 5", () -> x.ring(0, 5));
        Desk.dueNone("what -1", () -> x.ring(0, -1));
    }

    private static void balloons() {
        BalloonsMoor x = Desk.harbour("35", "45,1234;9,0010");
        int[] want = {45, 1, 2, 3, 4, 13, 3, 0, -1, -1};
        for (int what = 0; what < want.length; what++) {
            Desk.due("balloon what " + what, x.balloon(0, what), want[what]);
        }
        x.launch(0);
        Desk.due("free", x.balloon(0, 7), 1);
        Desk.due("no ring", x.balloon(0, 8), -1);
        Desk.due("cell", x.balloon(0, 9), 180);
        Desk.winds(x, "-/-/53/13/-/-/-/-/-/-");
        x.hours(1);
        Desk.due("by an eighth", x.balloon(0, 9), 19 * 6 + 12);
        Desk.due("high", x.balloon(0, 6), 2);
        x.hours(1);
        Desk.due("and back", x.balloon(0, 9), 180);
        x.moor(0, 0);
        Desk.due("moored", x.balloon(0, 7), 2);
        Desk.due("ring", x.balloon(0, 8), 0);
        Desk.due("no cell", x.balloon(0, 9), -1);
        Desk.dueNone("balloon 2", () -> x.balloon(2, 0));
        Desk.dueNone("balloon -1", () -> x.balloon(-1, 0));
        Desk.dueNone("what 10", () -> x.balloon(0, 10));
        Desk.dueNone("what -1", () -> x.balloon(0, -1));
    }

    private static void lifts() {
        BalloonsMoor x = Desk.harbour("", "9,0010;99,0010;5,9910");
        Desk.due("lift", x.lift(0), 9);
        Desk.due("high", x.balloon(0, 6), 0);
        Desk.due("lift", x.lift(1), 99);
        Desk.due("high", x.balloon(1, 6), 9);
        Desk.due("below", x.lift(2), -76);
        Desk.due("put to 0", x.balloon(2, 6), 0);
        x.rain(9);
        Desk.due("rain", x.lift(0), 0);
        Desk.rule(x, "g*g");
        Desk.due("high is 9 at most", x.balloon(1, 6), 9);
        Desk.dueNone("lift 3", () -> x.lift(3));
        Desk.dueNone("lift -1", () -> x.lift(-1));
    }

    private static void rain() {
        BalloonsMoor x = new BalloonsMoor();
        Desk.due("rain 9", x.rain(9), 0);
        Desk.due("rain 10", x.rain(10), -1);
        Desk.due("rain -1", x.rain(-1), -1);
        Desk.due("rain is", x.count(7), 9);
        Desk.due("rain 0", x.rain(0), 9);
    }

    private static void sheets() {
        BalloonsMoor x = Desk.harbour("", "1,0010;2,0010;3,0010");
        Desk.due("ints", x.sheet(2, 3, 10, 20), 90);
        Desk.due("second", x.balloon(1, 0), 30);
        Desk.due("shorter", x.sheet(2, 1, 7, 0), 7);
        Desk.due("behind it", x.balloon(2, 0), 0);
        Desk.due("put to 99", x.sheet(2, 2, 90, 20), 189);
        Desk.due("put to 0", x.sheet(2, 3, -10, 10), 10);
        Desk.due("bytes", x.sheet(0, 3, 255, 2), 4);
        Desk.due("a byte's sign", x.balloon(0, 0), 0);
        Desk.due("of 257", x.balloon(1, 0), 1);
        Desk.due("byte 128", x.sheet(0, 1, 128, 0), 0);
        Desk.due("byte 127", x.sheet(0, 1, 127, 0), 99);
        Desk.due("shorts", x.sheet(1, 2, 65535, 6), 5);
        Desk.due("short 32768", x.sheet(1, 1, 32768, 0), 0);
        Desk.due("int 65541", x.sheet(2, 1, 65541, 0), 99);
        Desk.due("beyond ints", x.sheet(2, 2, Integer.MAX_VALUE, 1), 99);
        Desk.due("more than there are", x.sheet(2, 6, 1, 1), 6);
        Desk.due("none", x.sheet(1, 0, 5, 5), 0);
        Desk.due("none left", x.balloon(0, 0), 0);
    }

    private static void sheetsRefused() {
        BalloonsMoor x = Desk.harbour("", "1,0010;2,0010");
        Desk.due("kind 4", x.sheet(4, 1, 5, 5), -1);
        Desk.due("kind -1", x.sheet(-1, -1, 5, 5), -1);
        Desk.due("n 7", x.sheet(0, 7, 5, 5), -1);
        Desk.due("n 7, missing", x.sheet(3, 7, 5, 5), -1);
        Desk.due("n below 0", x.sheet(2, -1, 5, 5), -2);
        Desk.due("n least", x.sheet(0, Integer.MIN_VALUE, 5, 5), -2);
        Desk.due("nothing changes", x.balloon(1, 0), 2);
        Desk.due("missing", x.sheet(3, -1, 5, 5), -3);
        Desk.due("all 0", x.balloon(0, 0) + x.balloon(1, 0), 0);
        Desk.due("no act", x.count(9), 0);
        Desk.due("no row", x.count(10), 0);
    }
}
