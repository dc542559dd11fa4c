/** Boundary sentences of promises 13 to 18: launches, moorings, castings off, loads. */
final class BoundsOfActs {
    private static final int LEAST = Integer.MIN_VALUE;
    private static final int MOST = Integer.MAX_VALUE;

    private BoundsOfActs() {
    }

    static void run() {
        promise13();
        promise13Refused();
        promise14();
        promise14Order();
        promise15();
        promise16();
        promise16Refused();
        promise17();
        promise18();
    }

    /** 0 in the yard, 1 free, 2 moored at RING 0, 3 lost. */
    private static BalloonsMoor everywhere() {
        BalloonsMoor x = Desk.harbour("50;60", "55,1110;55,1190;59,1190;95,1110");
        Desk.blown(x, "-/-/-/-/-/-/-/-/23/-");
        x.launch(1);
        x.launch(2);
        x.moor(2, 0);
        x.launch(3);
        x.hours(4);
        Desk.due("places", x.balloon(0, 7) * 1000 + x.balloon(1, 7) * 100 + x.balloon(2, 7) * 10 + x.balloon(3, 7), 123);
        return x;
    }

    private static void promise13() {
        String p = "Promise 13";
        Sentences.holds(p, "A BALLOON in THE YARD is FREE over 0, 0: HIGH.", () -> {
            BalloonsMoor x = Desk.harbour("", "0,0010;9,0010;10,0010;99,0010;19,0011");
            int[] high = {0, 0, 1, 9, 1};
            for (int b = 0; b < 5; b++) {
                Desk.due("high " + b, x.launch(b), high[b]);
                Desk.due("free " + b, x.balloon(b, 7), 1);
                Desk.due("over the tower " + b, x.balloon(b, 9), 180);
            }
            Desk.blown(x, "-/22/-/-/-/-/-/-/-/-");
            x.hours(1);
            Desk.ruled(x, "0-1");
            x.hours(1);
            Desk.due("down 2 off", x.balloon(4, 7), 0);
            Desk.ruled(x, "999");
            Desk.due("again", x.launch(4), 9);
            Desk.due("over the tower again", x.balloon(4, 9), 180);
        });
    }

    private static void promise13Refused() {
        String p = "Promise 13";
        Sentences.holds(p, "-2: it is not in THE YARD", () -> {
            BalloonsMoor x = everywhere();
            for (int b = 1; b < 4; b++) {
                Desk.due("launch " + b, x.launch(b), -2);
            }
            Desk.ruled(x, "0-1");
            for (int b = 1; b < 4; b++) {
                Desk.due("without lift too, " + b, x.launch(b), -2);
            }
            Desk.due("where they were", x.count(4) * 100 + x.count(5) * 10 + x.count(6), 248);
        });
        Sentences.holds(p, "-3: LIFT is below 0", () -> {
            BalloonsMoor x = Desk.harbour("", "4,1010;5,1010;0,9910");
            Desk.due("-1", x.launch(0), -3);
            Desk.due("0", x.launch(1), 0);
            Desk.due("-81", x.launch(2), -3);
            x.rain(9);
            Desk.due("by rain", x.launch(0), -3);
            Desk.due("in the yard still", x.count(3), 5);
            Desk.ruled(x, "-(128*256*256*256)");
            Desk.due("the least", x.launch(0), -3);
        });
        Sentences.holds(p, "NONE: none such.", () -> {
            BalloonsMoor x = Desk.harbour("", "4,0010;5,0010");
            for (int b : new int[] {2, 6, -1, LEAST, MOST}) {
                Desk.due("launch " + b, x.launch(b), -1);
            }
            Desk.due("the last one", x.launch(1), 0);
        });
    }

    private static void promise14() {
        String p = "Promise 14";
        Sentences.holds(p, "A FREE one is MOORED at a RING: HEIGHT of that.", () -> {
            BalloonsMoor x = Desk.harbour("00;97", "5,0010;95,0010");
            x.launch(0);
            x.launch(1);
            Desk.due("height 0", x.moor(0, 0), 0);
            Desk.due("height 9", x.moor(1, 1), 9);
            Desk.due("moored", x.count(5), 3);
            Desk.due("ring", x.balloon(1, 8), 1);
        });
        Sentences.holds(p, "-2: it is not FREE", () -> {
            BalloonsMoor x = everywhere();
            for (int b : new int[] {0, 2, 3}) {
                Desk.due("moor " + b, x.moor(b, 1), -2);
            }
            Desk.due("at its own ring", x.moor(2, 0), -2);
        });
        Sentences.holds(p, "-3: x and y (without signs) are more than ROPE together", () -> {
            for (int way = 0; way < 8; way++) {
                for (int rope = 1; rope <= 9; rope++) {
                    BalloonsMoor x = Desk.harbour("00", "5,00" + rope + "0");
                    Desk.blown(x, way + "1/-/-/-/-/-/-/-/-/-");
                    x.launch(0);
                    int within = way % 2 == 0 ? rope : rope / 2;
                    x.hours(within + 1);
                    Desk.due("too far by " + way, x.moor(0, 0), within + 1 > 9 ? -2 : -3);
                    x.undo();
                    x.hours(within);
                    Desk.due("near by " + way, x.moor(0, 0), 0);
                }
            }
        });
        Sentences.holds(p, "-4: HIGH and HEIGHT are more than 1 apart", () -> {
            for (int high = 0; high <= 9; high++) {
                BalloonsMoor x = Desk.harbour("00;10;20;30;60;70;80;90", high + "5,0010");
                x.launch(0);
                for (int ring = 0; ring < 8; ring++) {
                    int height = x.ring(ring, 0);
                    boolean near = high - height <= 1 && height - high <= 1;
                    Desk.due("high " + high + " at height " + height, x.moor(0, ring), near ? height : -4);
                    if (near) {
                        x.undo();
                    }
                }
            }
        });
        Sentences.holds(p, "NONE: none such.", () -> {
            BalloonsMoor x = everywhere();
            for (int none : new int[] {4, 6, -1, LEAST, MOST}) {
                Desk.due("balloon " + none, x.moor(none, 0), -1);
                Desk.due("ring " + none, x.moor(1, none), -1);
                Desk.due("ring " + none + " comes ahead of not free", x.moor(0, none), -1);
            }
            Desk.due("ring 2", x.moor(1, 2), -1);
        });
    }

    private static void promise14Order() {
        Sentences.holds("Promise 14", "-5: another one is there (asked in this order)", () -> {
            BalloonsMoor x = Desk.harbour("50;00;60", "55,0090;55,0010;5,0010;95,0010;59,0010");
            x.launch(0);
            x.moor(0, 0);
            x.launch(1);
            Desk.due("another", x.moor(1, 0), -5);
            Desk.due("its ring is free yet", x.moor(1, 2), 6);
            Desk.due("in the yard, another is there", x.moor(4, 0), -2);
            x.launch(3);
            Desk.due("too high, another is there", x.moor(3, 0), -4);
            Desk.blown(x, "-/-/-/-/-/-/-/-/-/21");
            x.hours(2);
            Desk.due("too far, too high, another is there", x.moor(3, 0), -3);
            Desk.due("too far, too high", x.moor(3, 1), -3);
            x.hours(9);
            Desk.due("lost", x.balloon(3, 7), 3);
            Desk.due("lost, too high, another is there", x.moor(3, 0), -2);
            x.cast(0);
            x.launch(2);
            Desk.due("he is gone", x.moor(4, 0), -2);
            x.launch(4);
            Desk.due("he is gone", x.moor(4, 0), 5);
        });
    }

    private static void promise15() {
        String p = "Promise 15";
        Sentences.holds(p, "A MOORED one is FREE over 0, 0: at which RING it was.", () -> {
            BalloonsMoor x = Desk.harbour("50;51", "55,0090;55,0090");
            Desk.blown(x, "-/-/-/-/-/32/-/-/-/-");
            x.launch(0);
            x.launch(1);
            x.hours(2);
            x.moor(0, 1);
            x.moor(1, 0);
            Desk.due("ring 1", x.cast(0), 1);
            Desk.due("over the tower, not where it was", x.balloon(0, 9), 180);
            Desk.due("ring 0", x.cast(1), 0);
            Desk.due("both free", x.count(4), 3);
        });
        Sentences.holds(p, "-2: it is not MOORED; NONE: none such.", () -> {
            BalloonsMoor x = everywhere();
            for (int b : new int[] {0, 1, 3}) {
                Desk.due("cast " + b, x.cast(b), -2);
            }
            for (int b : new int[] {4, 6, -1, LEAST, MOST}) {
                Desk.due("cast " + b, x.cast(b), -1);
            }
            Desk.due("a moored one", x.cast(2), 0);
            Desk.due("not any more", x.cast(2), -2);
        });
    }

    private static void promise16() {
        String p = "Promise 16";
        Sentences.holds(p, "SACKS more (n above 0; in THE YARD or MOORED alone) or fewer (n below 0; not LOST): SACKS then.", () -> {
            BalloonsMoor x = everywhere();
            Desk.due("yard, more", x.sacks(0, 1), 2);
            Desk.due("yard, fewer", x.sacks(0, -1), 1);
            Desk.due("free, more", x.sacks(1, 1), -2);
            Desk.due("free, fewer", x.sacks(1, -1), 0);
            Desk.due("moored, more", x.sacks(2, 1), 2);
            Desk.due("moored, fewer", x.sacks(2, -1), 1);
            Desk.due("lost, more", x.sacks(3, 1), -2);
            Desk.due("lost, fewer", x.sacks(3, -1), -2);
            Desk.due("of the lost one", x.balloon(3, 1), 1);
        });
        Sentences.holds(p, "-2: it is not so", () -> {
            BalloonsMoor x = everywhere();
            Desk.due("free, far too many", x.sacks(1, MOST), -2);
            Desk.due("lost, far too many", x.sacks(3, 99), -2);
            Desk.due("lost, far too few", x.sacks(3, LEAST), -2);
            Desk.due("free, far too few", x.sacks(1, LEAST), -3);
        });
    }

    private static void promise16Refused() {
        String p = "Promise 16";
        Sentences.holds(p, "-3: they would be below 0 or above 9", () -> {
            BalloonsMoor x = Desk.harbour("", "9,4010");
            Desk.due("10", x.sacks(0, 6), -3);
            Desk.due("9", x.sacks(0, 5), 9);
            Desk.due("10", x.sacks(0, 1), -3);
            Desk.due("far above", x.sacks(0, MOST), -3);
            Desk.due("-1", x.sacks(0, -10), -3);
            Desk.due("0", x.sacks(0, -9), 0);
            Desk.due("-1", x.sacks(0, -1), -3);
            Desk.due("far below", x.sacks(0, LEAST), -3);
            Desk.due("9", x.sacks(0, 9), 9);
            Desk.due("they stay", x.balloon(0, 1), 9);
        });
        Sentences.holds(p, "NONE: none such, n 0.", () -> {
            BalloonsMoor x = everywhere();
            for (int b : new int[] {4, 6, -1, LEAST, MOST}) {
                Desk.due("sacks " + b, x.sacks(b, 1), -1);
                Desk.due("sacks " + b, x.sacks(b, -1), -1);
            }
            for (int b = 0; b < 4; b++) {
                Desk.due("n 0 of " + b, x.sacks(b, 0), -1);
            }
        });
    }

    private static void promise17() {
        String p = "Promise 17";
        Sentences.holds(p, "CARGO becomes v (0 .. 9; in THE YARD or MOORED): what it was.", () -> {
            BalloonsMoor x = everywhere();
            Desk.due("yard, 9", x.cargo(0, 9), 1);
            Desk.due("yard, 0", x.cargo(0, 0), 9);
            Desk.due("yard, like", x.cargo(0, 0), 0);
            Desk.due("moored, 9", x.cargo(2, 9), 1);
            Desk.due("moored, 0", x.cargo(2, 0), 9);
            Desk.due("weight", x.balloon(2, 5), 5);
        });
        Sentences.holds(p, "-2: it is not so; NONE: others.", () -> {
            BalloonsMoor x = everywhere();
            Desk.due("free", x.cargo(1, 2), -2);
            Desk.due("lost", x.cargo(3, 2), -2);
            for (int b = 0; b < 4; b++) {
                for (int v : new int[] {10, -1, LEAST, MOST}) {
                    Desk.due("cargo " + v + " of " + b, x.cargo(b, v), -1);
                }
                Desk.due("as it was", x.balloon(b, 2), 1);
            }
            for (int b : new int[] {4, 6, -1, LEAST, MOST}) {
                Desk.due("cargo of " + b, x.cargo(b, 1), -1);
            }
        });
    }

    private static void promise18() {
        String p = "Promise 18";
        Sentences.holds(p, "GAS becomes v (0 .. 99; in THE YARD): what it was.", () -> {
            BalloonsMoor x = everywhere();
            Desk.due("99", x.fill(0, 99), 55);
            Desk.due("0", x.fill(0, 0), 99);
            Desk.due("like", x.fill(0, 0), 0);
            Desk.due("gas", x.balloon(0, 0), 0);
        });
        Sentences.holds(p, "-2: it is not there; NONE: others.", () -> {
            BalloonsMoor x = everywhere();
            for (int b = 1; b < 4; b++) {
                Desk.due("fill " + b, x.fill(b, 9), -2);
            }
            for (int b = 0; b < 4; b++) {
                int gas = x.balloon(b, 0);
                for (int v : new int[] {100, -1, LEAST, MOST}) {
                    Desk.due("fill with " + v, x.fill(b, v), -1);
                }
                Desk.due("as it was", x.balloon(b, 0), gas);
            }
            for (int b : new int[] {4, 6, -1, LEAST, MOST}) {
                Desk.due("fill " + b, x.fill(b, 1), -1);
            }
        });
    }
}
