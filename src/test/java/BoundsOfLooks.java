/** Boundary sentences of promises 8 to 12: what RINGS and BALLOONS are, RAIN, sheets. */
final class BoundsOfLooks {
    private static final int LEAST = Integer.MIN_VALUE;
    private static final int MOST = Integer.MAX_VALUE;

    private BoundsOfLooks() {
    }

    static void run() {
        promise8();
        promise9();
        promise9Nowhere();
        promise10();
        promise11();
        promise12();
        promise12Refused();
    }

    private static void promise8() {
        String p = "Promise 8";
        Sentences.holds(p, "Of a RING, what 0: HEIGHT, 1: SIDE", () -> {
            BalloonsMoor x = Desk.harbour("00;97;35;35", "");
            int[] told = {0, 97, 35, 35};
            for (int r = 0; r < 4; r++) {
                Desk.due("height " + r, x.ring(r, 0), told[r] / 10);
                Desk.due("side " + r, x.ring(r, 1), told[r] % 10);
            }
        });
        Sentences.holds(p, "2: the BALLOON that is there (NONE)", () -> {
            BalloonsMoor x = Desk.harbour("50;51", "55,0010;55,0010");
            Desk.due("nobody", x.ring(0, 2), -1);
            x.launch(1);
            x.launch(0);
            Desk.due("free ones over the tower", x.ring(0, 2), -1);
            x.moor(1, 0);
            x.moor(0, 1);
            Desk.due("balloon 1", x.ring(0, 2), 1);
            Desk.due("balloon 0", x.ring(1, 2), 0);
            x.cast(1);
            Desk.due("nobody again", x.ring(0, 2), -1);
        });
        Sentences.holds(p, "3: whither the WIND of its HEIGHT blows (NONE), 4: how strong (0)", () -> {
            BalloonsMoor x = Desk.harbour("00;10;90", "");
            Desk.due("none at first", x.ring(2, 3), -1);
            Desk.due("0 at first", x.ring(2, 4), 0);
            Desk.blown(x, "01/-/-/-/-/-/-/-/-/73");
            Desk.due("whither 0", x.ring(0, 3), 0);
            Desk.due("strong 1", x.ring(0, 4), 1);
            Desk.due("none", x.ring(1, 3), -1);
            Desk.due("not strong", x.ring(1, 4), 0);
            Desk.due("whither 7", x.ring(2, 3), 7);
            Desk.due("strong 3", x.ring(2, 4), 3);
        });
        Sentences.holds(p, "NoSuchElementException: none such, another what.", () -> {
            BalloonsMoor x = Desk.harbour("11;97", "55,0010");
            Desk.due("the last ring, the last what", x.ring(1, 4), 0);
            Desk.due("the last ring, what 0", x.ring(1, 0), 9);
            for (int ring : new int[] {2, 8, -1, LEAST, MOST}) {
                Desk.dueNone("ring " + ring, () -> x.ring(ring, 0));
            }
            for (int what : new int[] {5, -1, LEAST, MOST}) {
                Desk.dueNone("what " + what, () -> x.ring(1, what));
            }
        });
    }

    private static void promise9() {
        String p = "Promise 9";
        Sentences.holds(p, "9: 19 times (y and 9), x and 9 (FREE", () -> {
            int[][] corners = {{0, 0, -9}, {1, 9, -9}, {2, 9, 0}, {3, 9, 9}, {4, 0, 9}, {5, -9, 9}, {6, -9, 0}, {7, -9, -9}};
            int[] cells = {9, 18, 189, 360, 351, 342, 171, 0};
            for (int[] corner : corners) {
                BalloonsMoor x = Desk.harbour("", "5,0010");
                Desk.blown(x, corner[0] + "3/-/-/-/-/-/-/-/-/-");
                x.launch(0);
                Desk.due("over the tower", x.balloon(0, 9), 180);
                x.hours(3);
                Desk.due("at the edge", x.balloon(0, 9), Desk.cell(corner[1], corner[2]));
                Desk.due("at the edge", x.balloon(0, 9), cells[corner[0]]);
            }
        });
        Sentences.holds(p, "NoSuchElementException: likewise.", () -> {
            BalloonsMoor x = Desk.harbour("11", "55,0010;66,0010");
            Desk.due("the last one, the last what", x.balloon(1, 9), -1);
            Desk.due("the last one, what 0", x.balloon(1, 0), 66);
            for (int balloon : new int[] {2, 6, -1, LEAST, MOST}) {
                Desk.dueNone("balloon " + balloon, () -> x.balloon(balloon, 0));
            }
            for (int what : new int[] {10, -1, LEAST, MOST}) {
                Desk.dueNone("what " + what, () -> x.balloon(1, what));
            }
            Desk.balloons(x, "1,0010;1,0010;1,0010");
            Desk.due("a fifth", x.balloon(4, 0), 1);
            Desk.dueNone("a sixth", () -> x.balloon(5, 0));
        });
    }

    private static void promise9Nowhere() {
        String p = "Promise 9";
        Sentences.holds(p, "Of a BALLOON, what 0: GAS, 1: SACKS, 2: CARGO, 3: ROPE, 4: LEAK, 5: WEIGHT, 6: HIGH", () -> {
            BalloonsMoor x = Desk.harbour("", "0,0010;99,9999;45,1234;5,1010");
            int[][] told = {{0, 0, 0, 1, 0, 0, 0}, {99, 9, 9, 9, 9, 81, 1}, {45, 1, 2, 3, 4, 13, 3}, {5, 1, 0, 1, 0, 5, 0}};
            for (int b = 0; b < 4; b++) {
                for (int what = 0; what <= 6; what++) {
                    Desk.due("what " + what + " of " + b, x.balloon(b, what), told[b][what]);
                }
            }
        });
        Sentences.holds(p, "7: 0 in THE YARD, 1 FREE, 2 MOORED, 3 LOST, 8: the RING (NONE)", () -> {
            BalloonsMoor x = everywhere();
            int[] where = {0, 1, 2, 3, 0};
            int[] ring = {-1, -1, 1, -1, -1};
            for (int b = 0; b < 5; b++) {
                Desk.due("where " + b, x.balloon(b, 7), where[b]);
                Desk.due("ring " + b, x.balloon(b, 8), ring[b]);
            }
            x.cast(2);
            Desk.due("cast off", x.balloon(2, 8), -1);
        });
        Sentences.holds(p, "; else NONE)", () -> {
            BalloonsMoor x = everywhere();
            int[] cell = {-1, Desk.cell(8, 0), -1, -1, -1};
            for (int b = 0; b < 5; b++) {
                Desk.due("cell " + b, x.balloon(b, 9), cell[b]);
            }
        });
    }

    /** 0 in the yard, 1 free, 2 moored, 3 lost, 4 back in the yard. */
    private static BalloonsMoor everywhere() {
        BalloonsMoor x = Desk.harbour("10;50", "5,0010;25,0010;55,0010;35,0010;3,0011");
        Desk.blown(x, "-/-/22/23/-/-/-/-/-/-");
        x.rain(1);
        for (int b = 1; b < 5; b++) {
            x.launch(b);
        }
        x.moor(2, 1);
        x.hours(4);
        return x;
    }

    private static void promise10() {
        Sentences.holds("Promise 10", "LIFT of a BALLOON.", () -> {
            BalloonsMoor x = Desk.harbour("", "0,0010;99,0010;0,9910");
            x.rain(9);
            Desk.due("below 0", x.lift(0), -9);
            Desk.due("the most", x.lift(1), 90);
            Desk.due("the least", x.lift(2), -90);
            Desk.ruled(x, "b-1");
            Desk.due("-1", x.lift(0), -1);
            Desk.due("0", x.lift(1), 0);
            Desk.due("1", x.lift(2), 1);
        });
        Sentences.holds("Promise 10", "NoSuchElementException: none such.", () -> {
            BalloonsMoor none = new BalloonsMoor();
            Desk.dueNone("of none", () -> none.lift(0));
            BalloonsMoor x = Desk.harbour("11", "55,0010;66,0010");
            Desk.due("the last one", x.lift(1), 66);
            for (int balloon : new int[] {2, 6, -1, LEAST, MOST}) {
                Desk.dueNone("lift " + balloon, () -> x.lift(balloon));
            }
        });
    }

    private static void promise11() {
        String p = "Promise 11";
        Sentences.holds(p, "RAIN becomes v (0 .. 9): what it was.", () -> {
            BalloonsMoor x = Desk.harbour("", "50,0010");
            Desk.due("9", x.rain(9), 0);
            Desk.due("lift", x.lift(0), 41);
            Desk.due("0", x.rain(0), 9);
            Desk.due("lift", x.lift(0), 50);
            Desk.due("again", x.rain(1), 0);
        });
        Sentences.holds(p, "Refused: others.", () -> {
            BalloonsMoor x = Desk.harbour("", "50,0010");
            x.rain(4);
            for (int v : new int[] {10, -1, LEAST, MOST}) {
                Desk.due("rain " + v, x.rain(v), -1);
            }
            Desk.due("as it was", x.count(7), 4);
        });
    }

    private static void gases(BalloonsMoor x, int... want) {
        for (int b = 0; b < want.length; b++) {
            Desk.due("gas " + b, x.balloon(b, 0), want[b]);
        }
    }

    private static void promise12() {
        String p = "Promise 12";
        Sentences.holds(p, "GAS of BALLOONS 0, 1, .., as a sheet tells it: bytes (kind 0), shorts (1), ints (2) of n entries"
            + " f, f + step, .. (of bytes, shorts the lowest bits, with their sign; put to 0 .. 99)", () -> {
            BalloonsMoor x = Desk.harbour("", "1,0010;1,0010;1,0010;1,0010");
            Desk.due("ints about 0 and 99", x.sheet(2, 4, -1, 1), 3);
            gases(x, 0, 0, 1, 2);
            Desk.due("ints about 99", x.sheet(2, 4, 98, 1), 98 + 99 + 99 + 99);
            gases(x, 98, 99, 99, 99);
            Desk.due("ints, far", x.sheet(2, 2, 256, 65536 - 256), 198);
            Desk.due("ints wrap around", x.sheet(2, 4, MOST, 1), 99);
            gases(x, 99, 0, 0, 0);
            Desk.due("and come back", x.sheet(2, 4, 5, 1 << 30), 5 + 99);
            gases(x, 5, 99, 0, 0);
            Desk.due("bytes about 127", x.sheet(0, 4, 126, 1), 198);
            gases(x, 99, 99, 0, 0);
            Desk.due("bytes about 256", x.sheet(0, 4, 254, 1), 1);
            gases(x, 0, 0, 0, 1);
            Desk.due("bytes below 0", x.sheet(0, 4, -257, 129), 1);
            gases(x, 0, 0, 1, 0);
            Desk.due("shorts about 127 and 255", x.sheet(1, 2, 127, 128), 198);
            Desk.due("shorts about 32767", x.sheet(1, 4, 32766, 1), 198);
            gases(x, 99, 99, 0, 0);
            Desk.due("shorts about 65536", x.sheet(1, 4, 65535, 1), 3);
            gases(x, 0, 0, 1, 2);
        });
        Sentences.holds(p, "those behind it have 0: the sum of all", () -> {
            BalloonsMoor x = Desk.harbour("", "7,0010;8,0010;9,0010");
            Desk.due("two of three", x.sheet(2, 2, 4, 1), 9);
            gases(x, 4, 5, 0);
            Desk.due("none of three", x.sheet(2, 0, 4, 1), 0);
            gases(x, 0, 0, 0);
            Desk.due("as many", x.sheet(2, 3, 4, 1), 15);
            gases(x, 4, 5, 6);
            Desk.due("more entries than there are", x.sheet(2, 6, 4, 1), 15);
            gases(x, 4, 5, 6);
            Desk.due("nobody", new BalloonsMoor().sheet(2, 6, 4, 1), 0);
            BalloonsMoor six = Desk.harbour("", "0,0010;0,0010;0,0010;0,0010;0,0010;0,0010");
            Desk.due("six of six", six.sheet(1, 6, 99, 0), 594);
        });
    }

    private static void promise12Refused() {
        String p = "Promise 12";
        Sentences.holds(p, "-2: n below 0 (of kinds 0 .. 2; nothing changes)", () -> {
            BalloonsMoor x = Desk.harbour("", "7,0010;8,0010");
            for (int kind = 0; kind <= 2; kind++) {
                Desk.due("n -1", x.sheet(kind, -1, 4, 1), -2);
                Desk.due("n least", x.sheet(kind, LEAST, 4, 1), -2);
            }
            gases(x, 7, 8);
        });
        Sentences.holds(p, "or a missing one (3)", () -> {
            BalloonsMoor x = Desk.harbour("", "7,0010;8,0010");
            Desk.due("whatever its entries are", x.sheet(3, 6, 50, 1), -3);
            gases(x, 0, 0);
        });
        Sentences.holds(p, "-3: missing (all 0)", () -> {
            for (int n : new int[] {0, 1, 6, -1, LEAST}) {
                BalloonsMoor x = Desk.harbour("", "7,0010;8,0010");
                Desk.due("missing, n " + n, x.sheet(3, n, 4, 1), -3);
                gases(x, 0, 0);
            }
        });
        Sentences.holds(p, "NONE: another kind, n above 6 (these first).", () -> {
            BalloonsMoor x = Desk.harbour("", "7,0010;8,0010");
            for (int kind : new int[] {4, -1, LEAST, MOST}) {
                Desk.due("kind " + kind, x.sheet(kind, 1, 4, 1), -1);
                Desk.due("kind ahead of n below 0", x.sheet(kind, -1, 4, 1), -1);
            }
            for (int kind = 0; kind <= 3; kind++) {
                Desk.due("n 7", x.sheet(kind, 7, 4, 1), -1);
                Desk.due("n most", x.sheet(kind, MOST, 4, 1), -1);
            }
            gases(x, 7, 8);
        });
    }
}
