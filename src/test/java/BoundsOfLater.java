/** Boundary sentences of promises 22 to 29: who touches and breaches, HOURS to come, berths. */
final class BoundsOfLater {
    private static final int LEAST = Integer.MIN_VALUE;
    private static final int MOST = Integer.MAX_VALUE;

    private BoundsOfLater() {
    }

    static void run() {
        promise22();
        promise23();
        promise24();
        promise25();
        promise25Refused();
        promise26();
        promise27();
        promise28();
        promise29();
    }

    private static void promise22() {
        Sentences.holds("Promise 22", "Pairs of MOORED ones that TOUCH, each counted once: how many; the ROW:"
            + " the first (the lesser, the other; nothing without).", () -> {
            BalloonsMoor x = Desk.harbour("50;50;50;50;50;50", "55,0010;55,0010;55,0010;55,0010;55,0010;55,0010");
            x.rests(4);
            Desk.due("nobody is moored", x.touches(), 0);
            Desk.dueRow("nothing", x);
            x.launch(5);
            x.moor(5, 0);
            Desk.due("one alone", x.touches(), 0);
            Desk.dueRow("nothing", x);
            x.launch(2);
            x.moor(2, 1);
            Desk.due("a pair", x.touches(), 1);
            Desk.dueRow("the lesser first", x, 2, 5);
            x.launch(4);
            x.moor(4, 2);
            Desk.due("three pairs", x.touches(), 3);
            Desk.dueRow("the first", x, 2, 4);
            for (int b : new int[] {0, 1, 3}) {
                x.launch(b);
                x.moor(b, b == 3 ? 5 : b + 3);
            }
            Desk.due("all", x.touches(), 15);
            Desk.dueRow("the first", x, 0, 1);
            BalloonsMoor y = Desk.harbour("50;51;51;50", "55,0010;55,0010;55,0010;55,0010");
            Desk.hang(y, 0, 1, 2, 3);
            Desk.due("two pairs", y.touches(), 2);
            Desk.dueRow("the least, not the nearest", y, 0, 3);
        });
    }

    private static void promise23() {
        Sentences.holds("Promise 23", "BREACHES: how many; the ROW: the first (the higher, the lower; the least row;"
            + " nothing without).", () -> {
            BalloonsMoor x = Desk.harbour("40;50;60;41;51", "55,0010;55,1010;55,2010;55,0110;55,0010");
            x.rests(4);
            Desk.due("nobody is moored", x.breaches(), 0);
            Desk.dueRow("nothing", x);
            Desk.ruled(x, "55");
            Desk.hang(x, 1, 0, 2, 4, 3);
            Desk.due("2 above 0, 2 above 1, 3 above 4", x.breaches(), 3);
            Desk.dueRow("the least row", x, 2, 0);
            x.cast(0);
            x.moor(0, 0);
            Desk.due("the ring is taken", x.balloon(0, 7), 1);
            Desk.due("2 above 1, 3 above 4", x.breaches(), 2);
            Desk.dueRow("the least row", x, 2, 1);
            x.cast(1);
            Desk.due("3 above 4", x.breaches(), 1);
            Desk.dueRow("the higher, then the lower", x, 3, 4);
            x.cast(3);
            Desk.due("none", x.breaches(), 0);
            Desk.dueRow("nothing", x);
        });
    }

    private static void promise24() {
        String p = "Promise 24";
        Sentences.holds(p, "Where a BALLOON is in n HOURS (0 .. 60): as balloon() 7; the ROW: GAS then,"
            + " as balloon() 9 or 8 then (NONE in THE YARD, LOST).", () -> {
            BalloonsMoor x = Desk.harbour("00;90", "9,0010;80,0011;90,0011;35,0010;64,0011");
            Desk.blown(x, "21/-/-/23/-/-/-/-/-/-");
            Desk.ruled(x, "g-(b=4)*5");
            for (int b = 1; b < 5; b++) {
                x.launch(b);
            }
            x.moor(2, 1);
            Desk.due("yard, now", x.drifts(0, 0), 0);
            Desk.dueRow("yard, now", x, 9, -1);
            Desk.due("yard", x.drifts(0, 60), 0);
            Desk.dueRow("yard", x, 9, -1);
            Desk.due("free, now", x.drifts(1, 0), 1);
            Desk.dueRow("free, now", x, 80, 180);
            Desk.due("free", x.drifts(1, 41), 1);
            Desk.dueRow("free, ahead of the wind", x, 39, 180);
            Desk.due("moored, now", x.drifts(2, 0), 2);
            Desk.dueRow("moored, now", x, 90, 1);
            Desk.due("moored", x.drifts(2, 60), 2);
            Desk.dueRow("moored", x, 30, 1);
            Desk.due("free, 9 off", x.drifts(3, 3), 1);
            Desk.dueRow("free, 9 off", x, 35, Desk.cell(9, 0));
            Desk.due("lost", x.drifts(3, 4), 3);
            Desk.dueRow("lost", x, 35, -1);
            Desk.due("down, but too far", x.drifts(4, 60), 3);
            Desk.blown(x, "-/-/-/-/-/-/-/-/-/-");
            Desk.due("up still", x.drifts(4, 59), 1);
            Desk.dueRow("up still", x, 5, 180);
            Desk.due("down in the sixtieth", x.drifts(4, 60), 0);
            Desk.dueRow("down in the sixtieth", x, 4, -1);
        });
        Sentences.holds(p, "Where a BALLOON is in n HOURS", () -> {
            for (int n = 0; n <= 48; n++) {
                BalloonsMoor x = Desk.harbour("20;30;60", "40,1121;62,1293;45,1131;78,2125;44,2050;70,1192");
                Desk.blown(x, "51/-/41/12/61/31/21/71/-/-");
                Desk.ruled(x, "g-s*5-c*4-r-o+(h=7)*9");
                x.rain(5);
                for (int b = 0; b < 5; b++) {
                    x.launch(b);
                }
                x.moor(0, 0);
                x.moor(2, 1);
                x.hours(1);
                x.cargo(0, 2);
                for (int b = 0; b < 6; b++) {
                    int where = x.drifts(b, n);
                    long gas = x.row(0);
                    long place = x.row(1);
                    x.hours(n);
                    Desk.due("place of " + b + " in " + n, x.balloon(b, 7), where);
                    Desk.due("gas of " + b + " in " + n, x.balloon(b, 0), gas);
                    Desk.due("cell of " + b + " in " + n, x.balloon(b, where == 2 ? 8 : 9), place);
                    x.undo();
                }
            }
        });
        Sentences.holds(p, "NONE: others.", () -> {
            BalloonsMoor x = Desk.harbour("00", "9,0010");
            x.launch(0);
            for (int n : new int[] {61, -1, LEAST, MOST}) {
                Desk.due("n " + n, x.drifts(0, n), -1);
            }
            for (int b : new int[] {1, 6, -1, LEAST, MOST}) {
                Desk.due("balloon " + b, x.drifts(b, 1), -1);
            }
            Desk.due("the longest", x.drifts(0, 60), 1);
        });
    }

    /** How soon a leaking one comes down, by such a rule. */
    private static int sinks(String rule) {
        BalloonsMoor x = Desk.harbour("", "99,0011");
        x.launch(0);
        Desk.ruled(x, rule);
        return x.sinks(0);
    }

    private static void promise25() {
        Sentences.holds("Promise 25", "In how many HOURS (1 .. 99) a BALLOON that is FREE or MOORED is not so any more:"
            + " how many; the ROW: 0 in THE YARD, 3 LOST.", () -> {
            Desk.due("at once", sinks("0-1"), 1);
            Desk.due("two", sinks("g-98"), 2);
            Desk.due("99", sinks("g-1"), 99);
            Desk.due("99, by the hour", sinks("-(h=3)*(g=0)"), 99);
            BalloonsMoor x = Desk.harbour("00", "3,0010;3,0011;3,0011");
            Desk.blown(x, "21/-/-/-/-/-/-/-/-/-");
            Desk.ruled(x, "g");
            x.launch(1);
            x.moor(1, 0);
            x.launch(2);
            Desk.ruled(x, "g-1");
            Desk.due("moored", x.sinks(1), 3);
            Desk.dueRow("in the yard", x, 0);
            Desk.due("3 off", x.sinks(2), 3);
            Desk.dueRow("lost", x, 3);
            Desk.ruled(x, "g-2");
            Desk.due("2 off", x.sinks(2), 2);
            Desk.dueRow("in the yard", x, 0);
            Desk.ruled(x, "5");
            Desk.due("beyond 9", x.sinks(2), 10);
            Desk.dueRow("lost", x, 3);
        });
    }

    private static void promise25Refused() {
        String p = "Promise 25";
        Sentences.holds(p, "-2: not in 99", () -> {
            Desk.due("in the hundredth", sinks("-(h=4)*(g=0)"), -2);
            Desk.due("never", sinks("g"), -2);
        });
        Sentences.holds(p, "-3: it is neither; NONE: none such.", () -> {
            BalloonsMoor x = Desk.harbour("00", "3,0010;95,0010");
            Desk.blown(x, "-/-/-/-/-/-/-/-/-/23");
            x.launch(1);
            x.hours(4);
            Desk.ruled(x, "0-1");
            Desk.due("in the yard", x.sinks(0), -3);
            Desk.due("lost", x.sinks(1), -3);
            for (int b : new int[] {2, 6, -1, LEAST, MOST}) {
                Desk.due("sinks " + b, x.sinks(b), -1);
            }
        });
    }

    private static void promise26() {
        String p = "Promise 26";
        Sentences.holds(p, "The fewest SACKS to be dropped (not LOST), so that HIGH is v (0 .. 9) or more: how many;"
            + " the ROW: HIGH then.", () -> {
            BalloonsMoor x = Desk.harbour("30", "70,9010;99,9010;9,0010");
            int[] fewest = {0, 0, 0, 1, 3, 5, 7, 9};
            for (int v = 0; v <= 7; v++) {
                Desk.due("high " + v, x.rises(0, v), fewest[v]);
                Desk.dueRow("high " + v, x, Math.max(v, 2));
            }
            Desk.due("high 9", x.rises(1, 9), 8);
            Desk.dueRow("high 9", x, 9);
            Desk.due("none to drop", x.rises(2, 0), 0);
            Desk.dueRow("none to drop", x, 0);
            Desk.ruled(x, "(s=9)*20+(s=7)*99+(s<5)*50");
            Desk.due("more than v", x.rises(0, 3), 2);
            Desk.dueRow("more than v", x, 9);
            Desk.due("though more sacks give less", x.rises(0, 2), 0);
            Desk.ruled(x, "h*10-s");
            x.hours(3);
            Desk.due("by the hour of now", x.rises(0, 3), 9);
            Desk.dueRow("by the hour of now", x, 3);
            Desk.due("not of the next", x.rises(0, 4), -2);
            x.undo();
            Desk.ruled(x, "(s=9)*20+(s=7)*99+(s<5)*50");
            x.launch(0);
            Desk.due("free", x.rises(0, 3), 2);
            Desk.ruled(x, "30");
            x.moor(0, 0);
            Desk.due("moored", x.rises(0, 3), 0);
            Desk.due("sacks are as they were", x.balloon(0, 1), 9);
        });
        Sentences.holds(p, "-2: not by all; -3: it is LOST; NONE: others.", () -> {
            BalloonsMoor x = Desk.harbour("00", "69,9010;95,0010");
            Desk.blown(x, "-/-/-/-/-/-/-/-/-/23");
            Desk.due("69 at the most", x.rises(0, 7), -2);
            Desk.due("by all", x.rises(0, 6), 8);
            x.launch(1);
            x.hours(4);
            for (int v = 0; v <= 9; v++) {
                Desk.due("lost", x.rises(1, v), -3);
            }
            for (int v : new int[] {10, -1, LEAST, MOST}) {
                Desk.due("v " + v, x.rises(0, v), -1);
                Desk.due("v " + v + " of a lost one", x.rises(1, v), -1);
            }
            for (int b : new int[] {2, 6, -1, LEAST, MOST}) {
                Desk.due("rises " + b, x.rises(b, 1), -1);
            }
        });
    }

    private static void promise27() {
        String p = "Promise 27";
        Sentences.holds(p, "Ways to have BALLOONS told as bits at RINGS, all at once, so that none TOUCHES another one"
            + " and there is no BREACH: how many", () -> {
            BalloonsMoor x = Desk.harbour("10;20;30;31", "9,0010;9,1010;9,0010");
            Desk.due("none told", x.berths(0), 1);
            Desk.due("one", x.berths(1), 4);
            Desk.due("two like ones: 1 and 3, or one at the other side", x.berths(5), 2 + 6);
            Desk.due("the heavier below", x.berths(3), 1 + 6);
            Desk.due("three: two at 1 and 3, one at the other side", x.berths(7), 4);
            BalloonsMoor y = Desk.harbour("00;01;02;03;04;05;06;07", "9,9010;9,8010;9,7010;9,6010;9,5010;9,4010");
            Desk.due("six at eight", y.berths(63), 20160);
            BalloonsMoor z = Desk.harbour("00;10;20;30;40;50;60;70", "9,0010;9,0010;9,0010;9,0010;9,0010;9,0010");
            Desk.due("four at 0 2 4 6, 0 2 4 7, 0 2 5 7, 0 3 5 7, 1 3 5 7", z.berths(15), 5 * 24);
            Desk.due("no five", z.berths(31), 0);
        });
        Sentences.holds(p, "the ROW: the least row of RINGS, by BALLOONS told (nothing without).", () -> {
            BalloonsMoor x = Desk.harbour("30;10;20;31", "9,0010;9,1010;9,0010;9,0010;9,0010");
            x.rests(4);
            x.berths(0);
            Desk.dueRow("none told", x);
            x.berths(16);
            Desk.dueRow("one", x, 0);
            x.berths(3);
            Desk.dueRow("the second can't hang higher", x, 0, 1);
            x.berths(6);
            Desk.dueRow("by balloons told", x, 0, 3);
            x.berths(31);
            Desk.dueRow("no way", x);
            Desk.due("no way", x.berths(31), 0);
            BalloonsMoor y = Desk.harbour("", "9,0010");
            y.rests(4);
            Desk.due("no rings", y.berths(1), 0);
            Desk.dueRow("no rings", y);
        });
        Sentences.holds(p, "NONE: bits of none such.", () -> {
            BalloonsMoor x = Desk.harbour("30", "9,0010;9,1010");
            for (int those : new int[] {4, 5, 7, 64, -1, LEAST, LEAST + 1, MOST, 1 << 30}) {
                Desk.due("berths " + those, x.berths(those), -1);
            }
            Desk.due("of nobody", new BalloonsMoor().berths(1), -1);
            Desk.due("none of nobody", new BalloonsMoor().berths(0), 1);
            Desk.due("both", x.berths(3), 0);
        });
    }

    private static void promise28() {
        String p = "Promise 28";
        Sentences.holds(p, "The most of BALLOONS told as bits that can be so at once: how many; the ROW: they"
            + " (bits: of as many the least).", () -> {
            BalloonsMoor x = Desk.harbour("10;30;11", "9,0010;9,1010;9,0010;9,1010");
            Desk.due("three of four", x.served(15), 3);
            Desk.dueRow("the least", x, 7);
            Desk.due("all three told", x.served(14), 3);
            Desk.dueRow("they", x, 14);
            Desk.due("one", x.served(8), 1);
            Desk.dueRow("they", x, 8);
            Desk.due("none told", x.served(0), 0);
            Desk.dueRow("none told", x, 0);
            BalloonsMoor y = Desk.harbour("10;20", "9,0010;9,0010;9,0010");
            Desk.due("one of three", y.served(7), 1);
            Desk.dueRow("the least", y, 1);
            Desk.due("one of two", y.served(6), 1);
            Desk.dueRow("the least", y, 2);
            BalloonsMoor z = Desk.harbour("", "9,0010;9,0010");
            Desk.due("no rings", z.served(3), 0);
            Desk.dueRow("no rings", z, 0);
            BalloonsMoor all = Desk.harbour("00;01;02;03;04;05", "9,0010;9,0010;9,0010;9,0010;9,0010;9,0010");
            Desk.due("all", all.served(63), 6);
            Desk.dueRow("all", all, 63);
        });
        Sentences.holds(p, "NONE: bits of none such.", () -> {
            BalloonsMoor x = Desk.harbour("30", "9,0010;9,1010");
            for (int those : new int[] {4, 5, 7, 64, -1, LEAST, LEAST + 1, MOST, 1 << 30}) {
                Desk.due("served " + those, x.served(those), -1);
            }
            Desk.due("of nobody", new BalloonsMoor().served(1), -1);
            Desk.due("none of nobody", new BalloonsMoor().served(0), 0);
        });
    }

    private static void promise29() {
        String p = "Promise 29";
        Sentences.holds(p, "Free RINGS (bits) at which a BALLOON (wherever it is) could be MOORED, so that it neither"
            + " TOUCHES another one that is MOORED nor makes a BREACH with such a one: bits; the ROW: how many.", () -> {
            BalloonsMoor x = Desk.harbour("50;60;70;40;30;51;50", "55,1010;55,2010;55,0110;55,1010;99,1010");
            Desk.due("all seven", x.yields(1), 127);
            Desk.dueRow("all seven", x, 7);
            Desk.ruled(x, "55");
            x.launch(0);
            x.moor(0, 0);
            Desk.due("heavier: below by 2 or at another side", x.yields(1), 16 + 32);
            Desk.dueRow("two", x, 2);
            Desk.due("lighter: above by 2 or at another side", x.yields(2), 4 + 32);
            Desk.due("like: above or below by 2", x.yields(3), 4 + 16 + 32);
            x.launch(3);
            Desk.due("a free one does as well", x.yields(3), 4 + 16 + 32);
            x.moor(3, 5);
            Desk.due("where another is, is not free", x.yields(1), 16);
            Desk.dueRow("one", x, 1);
            Desk.due("itself is no other one: all but the taken rings", x.yields(0), 2 + 4 + 8 + 16 + 64);
            Desk.due("itself, at the other side", x.yields(3), 4 + 16);
            Desk.blown(x, "23/23/23/23/23/23/23/23/23/23");
            Desk.ruled(x, "95");
            x.launch(4);
            x.hours(4);
            Desk.due("lost", x.balloon(4, 7), 3);
            Desk.due("a lost one does as well", x.yields(4), 4 + 16);
            BalloonsMoor none = Desk.harbour("", "9,0010");
            Desk.due("no rings", none.yields(0), 0);
            Desk.dueRow("no rings", none, 0);
        });
        Sentences.holds(p, "NONE: none such.", () -> {
            BalloonsMoor x = Desk.harbour("30", "9,0010;9,1010");
            for (int b : new int[] {2, 6, -1, LEAST, MOST}) {
                Desk.due("yields " + b, x.yields(b), -1);
            }
            Desk.due("the last one", x.yields(1), 1);
        });
    }
}
