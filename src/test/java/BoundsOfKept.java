/** Boundary sentences of promises 42 to 45: what is kept, counts, the ROW. */
final class BoundsOfKept {
    private static final int LEAST = Integer.MIN_VALUE;
    private static final int MOST = Integer.MAX_VALUE;

    private BoundsOfKept() {
    }

    static void run() {
        promise42();
        promise43();
        promise43Refused();
        promise44();
        promise45();
    }

    private static void promise42() {
        String p = "Promise 42";
        Sentences.holds(p, "Of BALLOONS GAS, SACKS, CARGO, where they are, NOW are kept under a number 0 .. 2: true.", () -> {
            BalloonsMoor x = Desk.harbour("50", "60,1091;60,0010;60,0010;60,0010;60,0010;60,1291");
            Desk.blown(x, "-/-/-/-/11/21/-/-/-/-");
            for (int i = 0; i < 3; i++) {
                x.launch(5 * (i % 2));
                x.hours(1 + i);
                x.sacks(0, -1);
                x.cargo(1, i);
                Desk.due("keep " + i, x.keep(i), true);
            }
            int[] now = {1, 3, 6};
            int[] gas = {59, 57, 54};
            int[] cargo = {0, 1, 2};
            for (int i = 2; i >= 0; i--) {
                x.hours(9);
                x.cargo(2, 7);
                Desk.due("again " + i, x.again(i), true);
                Desk.due("now", x.count(2), now[i]);
                Desk.due("gas", x.balloon(0, 0), gas[i]);
                Desk.due("sacks", x.balloon(0, 1), 0);
                Desk.due("cargo", x.balloon(1, 2), cargo[i]);
                Desk.due("cargo of another", x.balloon(2, 2), 0);
            }
            Desk.due("first: 1 off", x.balloon(0, 9), Desk.cell(1, 0));
            Desk.due("first: in the yard", x.balloon(5, 7), 0);
            x.again(1);
            Desk.due("second: 3 off", x.balloon(0, 9), Desk.cell(3, 0));
            Desk.due("second: the last one is free", x.balloon(5, 7), 1);
            Desk.due("second: where it was", x.balloon(5, 9), Desk.cell(2, -2));
        });
        Sentences.holds(p, "Refused: others.", () -> {
            BalloonsMoor x = Desk.harbour("", "9,0010");
            for (int i : new int[] {3, -1, LEAST, MOST}) {
                Desk.due("keep " + i, x.keep(i), false);
            }
            for (int i = 0; i < 3; i++) {
                Desk.due("nothing is kept", x.again(i), false);
            }
        });
    }

    private static void promise43() {
        Sentences.holds("Promise 43", "They are as they were kept under a number.", () -> {
            BalloonsMoor x = Desk.harbour("50;51", "60,1010;60,0010;90,0010");
            Desk.blown(x, "-/-/-/-/-/-/-/-/-/23");
            x.launch(0);
            x.moor(0, 1);
            x.launch(2);
            x.keep(2);
            x.hours(4);
            x.keep(0);
            x.cast(0);
            x.rain(5);
            x.mark(0, 0, 1);
            Desk.due("again", x.again(2), true);
            Desk.due("moored", x.balloon(0, 8), 1);
            Desk.due("free, though it was lost since", x.balloon(2, 9), 180);
            Desk.due("now", x.count(2), 0);
            Desk.due("rain is as it is", x.count(7), 5);
            Desk.due("marks are as they are", x.count(8), 1);
            Desk.due("as often as one likes", x.again(2), true);
            Desk.due("another", x.again(0), true);
            Desk.due("lost", x.balloon(2, 7), 3);
            Desk.due("now", x.count(2), 4);
            x.keep(0);
            x.hours(3);
            x.keep(0);
            x.hours(3);
            Desk.due("the latest under that number", x.again(0), true);
            Desk.due("now", x.count(2), 7);
        });
    }

    private static void promise43Refused() {
        Sentences.holds("Promise 43", "Refused: nothing kept, BALLOONS came since.", () -> {
            BalloonsMoor x = Desk.harbour("50", "60,0010");
            for (int i : new int[] {0, 1, 2, 3, -1, LEAST, MOST}) {
                Desk.due("again " + i, x.again(i), false);
            }
            x.keep(1);
            Desk.due("under another number", x.again(0), false);
            Desk.due("under another number", x.again(2), false);
            Desk.due("nobody came", Desk.balloons(x, ""), 0);
            Desk.due("nobody came", Desk.balloons(x, "60,00"), -6);
            Desk.due("nobody came", Desk.balloons(x, "60,0010;60,0000"), -14);
            Desk.due("kept", x.again(1), true);
            x.keep(0);
            x.keep(2);
            x.hours(2);
            Desk.due("one came", Desk.balloons(x, "5,0010"), 1);
            for (int i = 0; i < 3; i++) {
                Desk.due("again " + i, x.again(i), false);
            }
            Desk.due("now stays", x.count(2), 2);
            x.keep(2);
            Desk.due("kept since", x.again(2), true);
            Desk.due("not kept since", x.again(1), false);
            Desk.tower(x, "50");
            Desk.due("another tower", x.again(2), false);
        });
    }

    private static void promise44() {
        Sentences.holds("Promise 44", "-100 for another what.", () -> {
            BalloonsMoor x = Desk.harbour("50;00;10", "55,0021;55,0010;5,0010;55,0010;5,0010");
            for (int what : new int[] {12, 13, -1, LEAST, MOST}) {
                Desk.due("count " + what, x.count(what), -100);
            }
        });
        Sentences.holds("Promise 44", "What 0: RINGS, 1: BALLOONS, 2: NOW, 3: in THE YARD (bits), 4: FREE (bits), 5: MOORED (bits),"
            + " 6: LOST (bits), 7: RAIN, 8: marks, 9: what can be undone, 10: numbers of the ROW, 11: signs of THE TEXT.", () -> {
            BalloonsMoor x = Desk.harbour("50;00;10", "55,0021;55,0010;5,0010;55,0010;5,0010");
            Desk.blown(x, "03/-/-/-/-/-/-/-/-/-");
            for (int b = 0; b < 3; b++) {
                x.launch(b);
            }
            x.moor(0, 0);
            x.hours(4);
            x.rain(6);
            x.mark(0, 1, 1);
            x.sign(-1);
            x.sign(-1);
            x.end(7);
            int[] want = {3, 5, 4, 8 + 16, 2, 1, 4, 6, 1, 5, 2, 7};
            for (int what = 0; what <= 11; what++) {
                Desk.due("count " + what, x.count(what), want[what]);
            }
            BalloonsMoor full = Desk.harbour("00;01;02;03;04;05;06;07", "5,0010;5,0010;5,0010;5,0010;5,0010;5,0010");
            int[] most = {8, 6, 0, 63, 0, 0, 0, 0, 0, 0, 0, 0};
            for (int what = 0; what <= 11; what++) {
                Desk.due("full, count " + what, full.count(what), most[what]);
            }
        });
    }

    private static void promise45() {
        Sentences.holds("Promise 45", "Number i of the ROW.", () -> {
            BalloonsMoor x = Desk.harbour("", "5,0010");
            x.launch(0);
            x.chance(0, 8, 1, 7);
            Desk.due("number 0", x.row(0), 1);
            Desk.due("number 1", x.row(1), 1);
            Desk.blown(x, "21/-/-/-/-/-/-/-/-/-");
            x.chance(0, 8, 1, 7);
            Desk.due("number 0", x.row(0), 99999999);
            Desk.due("number 1", x.row(1), 100000000);
        });
        Sentences.holds("Promise 45", "NoSuchElementException: none such.", () -> {
            BalloonsMoor x = Desk.harbour("30", "49,0090");
            int[] none = {0, -1, 1, LEAST, MOST};
            for (int i : none) {
                Desk.dueNone("no row, " + i, () -> x.row(i));
            }
            x.served(1);
            Desk.due("one number", x.row(0), 1);
            Desk.dueNone("row 1", () -> x.row(1));
            Desk.ruled(x, "(h=6)*20");
            x.launch(0);
            x.lands(0, 0, 6);
            Desk.due("the longest row", x.count(10), 8);
            Desk.due("its first", x.row(0), 6);
            Desk.due("its last", x.row(7), 0);
            for (int i : new int[] {8, -1, LEAST, MOST}) {
                Desk.dueNone("row " + i, () -> x.row(i));
            }
            x.touches();
            Desk.dueNone("an empty row", () -> x.row(0));
        });
    }
}
