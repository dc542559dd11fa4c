/** Boundary sentences of promises 30 to 38: landings, storms, prices, who lay where. */
final class BoundsOfStorms {
    private static final int LEAST = Integer.MIN_VALUE;
    private static final int MOST = Integer.MAX_VALUE;

    private BoundsOfStorms() {
    }

    static void run() {
        landsAsMoor();
        landsWithin();
        landsRow();
        landsByTheWay();
        landsRefused();
        promise31();
        promise31Refused();
        promise32();
        promise33();
        promise34();
        promise34Refused();
        promise36();
        promise37();
        promise38();
    }

    private static void landsAsMoor() {
        Sentences.holds("Promise 30", "The fewest SACKS dropped in all by which it can be MOORED (as moor(), at that time,"
            + " behind drops then, too)", () -> {
            BalloonsMoor x = Desk.harbour("60;70;80;30", "59,2090");
            x.launch(0);
            Desk.due("high 4 is too low at 6", x.lands(0, 0, 0), 1);
            Desk.dueRow("dropped then", x, 0, 1);
            Desk.due("high 5 is too low at 7", x.lands(0, 1, 0), -2);
            Desk.due("high 5 is too low at 8", x.lands(0, 2, 6), -2);
            Desk.due("high 4 is low enough at 3", x.lands(0, 3, 0), 0);
            for (int rope = 1; rope <= 9; rope++) {
                for (int off = 0; off <= 9; off++) {
                    BalloonsMoor y = Desk.harbour("50", "50,00" + rope + "0");
                    Desk.blown(y, "-/-/-/-/-/61/-/-/-/-");
                    y.launch(0);
                    y.hours(off);
                    Desk.due(off + " off by a rope of " + rope, y.lands(0, 0, 0), off <= rope ? 0 : -2);
                    Desk.due("as moor()", y.moor(0, 0), off <= rope ? 5 : -3);
                }
            }
            BalloonsMoor z = Desk.harbour("50", "59,1010");
            Desk.blown(z, "-/-/-/-/-/11/-/-/-/-");
            z.launch(0);
            z.hours(1);
            Desk.due("x and y together are 2", z.lands(0, 0, 6), -2);
        });
        Sentences.holds("Promise 30", "at a free RING", () -> {
            BalloonsMoor x = Desk.harbour("50;50", "55,0010;55,0010;55,0010");
            x.launch(0);
            x.launch(1);
            Desk.due("free", x.lands(1, 0, 0), 0);
            x.moor(0, 0);
            Desk.due("not free", x.lands(1, 0, 6), -4);
            Desk.due("another is", x.lands(1, 1, 0), 0);
            x.cast(0);
            Desk.due("free again", x.lands(1, 0, 0), 0);
        });
    }

    private static void landsWithin() {
        Sentences.holds("Promise 30", "within n HOURS (0 .. 6): how many", () -> {
            for (int n = 0; n <= 6; n++) {
                BalloonsMoor x = Desk.harbour("30", "49,9090");
                Desk.ruled(x, "(h=" + n + ")*20+(s<9)*(s>6)*20");
                x.launch(0);
                for (int m = 0; m <= 6; m++) {
                    Desk.due("in " + n + " hours, within " + m, x.lands(0, 0, m), m >= n ? 0 : 1);
                    Desk.due("how many are told", x.count(10), 2 + (m >= n ? n : 0));
                }
            }
            BalloonsMoor y = Desk.harbour("30", "49,0090");
            Desk.ruled(y, "(h=7)*20");
            y.launch(0);
            Desk.due("in 7 hours", y.lands(0, 0, 6), -2);
            y.hours(1);
            Desk.due("in 6 hours", y.lands(0, 0, 6), 0);
            Desk.dueRow("in 6 hours", y, 6, 0, 0, 0, 0, 0, 0, 0);
        });
    }

    private static void landsRow() {
        String p = "Promise 30";
        Sentences.holds(p, "the ROW: in how many HOURS (of as few SACKS the fewest)", () -> {
            BalloonsMoor x = Desk.harbour("30", "45,3090");
            Desk.ruled(x, "20*((h=2)+(h=4)+(s<3)*(h=1)+(s<2))");
            x.launch(0);
            Desk.due("none in two hours", x.lands(0, 0, 6), 0);
            Desk.dueRow("not in four", x, 2, 0, 0, 0);
            Desk.due("one in one hour", x.lands(0, 0, 1), 1);
            Desk.dueRow("dropped at last", x, 1, 0, 1);
            Desk.due("two at once", x.lands(0, 0, 0), 2);
            Desk.dueRow("two at once", x, 0, 2);
        });
        Sentences.holds(p, "then how many are dropped ahead of each HOUR and at last (of as good ones the least row).", () -> {
            BalloonsMoor x = Desk.harbour("20", "12,3090");
            Desk.ruled(x, "(h=2)*(s<2)*20");
            x.launch(0);
            Desk.due("late ones are the lesser row", x.lands(0, 0, 6), 2);
            Desk.dueRow("late ones are the lesser row", x, 2, 0, 0, 2);
            Desk.ruled(x, "(h=2)*(s<2)*20-(h=1)*(s=3)");
            Desk.due("one has to go ahead of the first hour", x.lands(0, 0, 6), 2);
            Desk.dueRow("one has to go ahead of the first hour", x, 2, 1, 0, 1);
            Desk.ruled(x, "(h=2)*((s<2)*21-(s>1))");
            Desk.due("by the second hour's end two have to go", x.lands(0, 0, 6), 2);
            Desk.dueRow("by the second hour's end two have to go", x, 2, 0, 2, 0);
            BalloonsMoor y = Desk.harbour("20", "12,3010");
            Desk.blown(y, "21/61/-/-/-/-/-/-/-/-");
            Desk.ruled(y, "5");
            y.launch(0);
            y.hours(3);
            Desk.ruled(y, "(s<3)*10");
            Desk.due("3 off, westward by one sack less: two hours", y.lands(0, 0, 6), 1);
            Desk.dueRow("3 off, westward by one sack less: two hours", y, 2, 1, 0, 0);
            Desk.due("not in one", y.lands(0, 0, 1), -2);
            Desk.blown(y, "61/21/-/-/-/-/-/-/-/-");
            Desk.due("westward as it is, then one", y.lands(0, 0, 6), 1);
            Desk.dueRow("westward as it is, then one", y, 2, 0, 0, 1);
        });
    }

    private static void landsByTheWay() {
        Sentences.holds("Promise 30", "by which it can be MOORED", () -> {
            for (int way = 0; way < 8; way += 2) {
                int back = (way + 4) % 8;
                BalloonsMoor x = Desk.harbour("50", "9,0010;19,2090");
                Desk.blown(x, "-/" + way + "3/-/-/-/-/-/" + back + "3/-/-");
                Desk.ruled(x, "(h<4)*10+(h=4)*70+(h>4)*50");
                x.launch(1);
                x.hours(3);
                Desk.due("beyond the edge no wind brings it back", x.lands(1, 0, 6), -2);
                Desk.due("nearest too", x.nearest(1, 6), -2);
                Desk.ruled(x, "(h=3)*(30-s*10)+(h=4)*70+(h=5)*(s<2)*50");
                Desk.due("a sack ahead of that wind", x.lands(1, 0, 6), 1);
                Desk.dueRow("a sack ahead of that wind", x, 2, 1, 0, 0);
                Desk.ruled(x, "(h=3)*30-(h=4)+(h=5)*50");
                Desk.due("down by then", x.lands(1, 0, 6), -2);
                Desk.due("nearest too", x.nearest(1, 6), -2);
                Desk.ruled(x, "(h=3)*30+(h=5)*50-(h=3)*31");
                Desk.due("below 0 ahead of the hour, not behind it", x.nearest(1, 6), 0);
                Desk.due("lands too", x.lands(1, 0, 6), 0);
            }
            BalloonsMoor y = Desk.harbour("50", "55,2010;55,2010");
            Desk.blown(y, "-/11/-/-/-/-/-/-/-/-");
            Desk.ruled(y, "(h=0)*(30-s*10)+(h=1)*(s<2)*50");
            y.launch(1);
            Desk.due("1 and 1 off is too far", y.lands(1, 0, 6), 1);
            Desk.dueRow("1 and 1 off is too far", y, 1, 1, 0);
            Desk.ruled(y, "10");
            y.hours(1);
            Desk.ruled(y, "50");
            Desk.blown(y, "-/-/-/-/-/21/-/-/-/-");
            Desk.due("1 and 1 off is too far", y.nearest(1, 6), -2);
            Desk.blown(y, "-/-/-/-/-/01/-/-/-/-");
            Desk.due("northward it goes farther", y.nearest(1, 6), -2);
            Desk.blown(y, "-/-/-/-/-/41/-/-/-/-");
            Desk.due("southward it comes near", y.nearest(1, 6), 0);
            Desk.due("southward it comes near", y.lands(1, 0, 6), 0);
            Desk.dueRow("in an hour", y, 1, 0, 0);
            Desk.blown(y, "-/-/-/-/-/63/-/-/-/-");
            Desk.due("not any more", y.nearest(1, 6), -2);
        });
    }

    private static void landsRefused() {
        Sentences.holds("Promise 30", "-2: it can't; -3: it is not FREE; -4: another one is there; NONE: others.", () -> {
            BalloonsMoor x = Desk.harbour("50;60;90", "55,0010;55,0010;59,0010;85,0010");
            Desk.blown(x, "-/-/-/-/-/-/-/-/23/-");
            x.launch(0);
            x.moor(0, 0);
            x.launch(3);
            x.hours(4);
            x.launch(2);
            Desk.due("never so high", x.lands(2, 2, 6), -2);
            Desk.due("in the yard", x.lands(1, 1, 6), -3);
            Desk.due("in the yard, another is there", x.lands(1, 0, 6), -3);
            Desk.due("moored", x.lands(0, 1, 6), -3);
            Desk.due("moored there", x.lands(0, 0, 6), -3);
            Desk.due("lost", x.lands(3, 2, 6), -3);
            Desk.due("another is there", x.lands(2, 0, 6), -4);
            for (int n : new int[] {7, -1, LEAST, MOST}) {
                Desk.due("n " + n, x.lands(2, 1, n), -1);
                Desk.due("n " + n + " in the yard", x.lands(1, 1, n), -1);
            }
            for (int b : new int[] {4, 6, -1, LEAST, MOST}) {
                Desk.due("balloon " + b, x.lands(b, 1, 1), -1);
            }
            for (int r : new int[] {3, 8, -1, LEAST, MOST}) {
                Desk.due("ring " + r, x.lands(2, r, 1), -1);
                Desk.due("ring " + r + " in the yard", x.lands(1, r, 1), -1);
            }
            Desk.due("it can", x.lands(2, 1, 6), 0);
            Desk.ruled(x, "g-(h=5)*99-(h=6)*99");
            x.rain(0);
            Desk.due("it comes down within the hour", x.lands(2, 2, 6), -2);
            Desk.ruled(x, "g+(h=5)*40-(h=5)*99");
            Desk.due("no mooring of who is down", x.lands(2, 2, 1), -2);
        });
    }

    private static void promise31() {
        String p = "Promise 31";
        Sentences.holds(p, "The free RING at which it lands() by the fewest SACKS, of such in the fewest HOURS, of such the"
            + " first: it; the ROW: how many SACKS, in how many HOURS.", () -> {
            BalloonsMoor x = Desk.harbour("90;70;61;60;50", "54,2090;65,0010;45,0010");
            Desk.ruled(x, "g-s*5-(h=3)*10");
            x.launch(0);
            x.launch(1);
            x.launch(2);
            Desk.due("at once by none", x.nearest(0, 6), 4);
            Desk.dueRow("at once by none", x, 0, 0);
            x.moor(2, 4);
            Desk.due("ring 4 is taken", x.count(5), 4);
            Desk.due("high 5 by two, the first of like ones", x.nearest(0, 0), 2);
            Desk.dueRow("how many, at once", x, 2, 0);
            x.moor(1, 2);
            Desk.due("ring 2 is taken", x.nearest(0, 6), 3);
            Desk.dueRow("how many, at once", x, 2, 0);
            BalloonsMoor y = Desk.harbour("60;40", "45,2090");
            Desk.ruled(y, "20+(h=3)*30+(h=5)*20+(s<2)*20");
            y.launch(0);
            Desk.due("none in three hours, not one at once", y.nearest(0, 6), 0);
            Desk.dueRow("none in three hours", y, 0, 3);
            Desk.due("one at once", y.nearest(0, 2), 1);
            Desk.dueRow("one at once", y, 1, 0);
            Desk.ruled(y, "10+(h=5)*40+(h=3)*20");
            Desk.due("the second in three hours, the first in five", y.nearest(0, 6), 1);
            Desk.dueRow("the second in three hours", y, 0, 3);
        });
    }

    private static void promise31Refused() {
        Sentences.holds("Promise 31", "-2: at none; -3: it is not FREE; NONE: others.", () -> {
            BalloonsMoor x = Desk.harbour("50;90", "55,0010;55,0010;85,0010;59,0010");
            Desk.blown(x, "-/-/-/-/-/-/-/-/23/-");
            x.launch(0);
            x.moor(0, 0);
            x.launch(2);
            x.hours(4);
            x.launch(3);
            Desk.due("one is taken, the other too high", x.nearest(3, 6), -2);
            Desk.due("in the yard", x.nearest(1, 6), -3);
            Desk.due("moored", x.nearest(0, 6), -3);
            Desk.due("lost", x.nearest(2, 6), -3);
            for (int n : new int[] {7, -1, LEAST, MOST}) {
                Desk.due("n " + n, x.nearest(3, n), -1);
                Desk.due("n " + n + " in the yard", x.nearest(1, n), -1);
            }
            for (int b : new int[] {4, 6, -1, LEAST, MOST}) {
                Desk.due("balloon " + b, x.nearest(b, 1), -1);
            }
            BalloonsMoor y = Desk.harbour("", "5,0010");
            y.launch(0);
            Desk.due("no rings", y.nearest(0, 6), -2);
        });
    }

    private static void storm(String ropes, long... order) {
        StringBuilder balloons = new StringBuilder();
        for (int i = 0; i < ropes.length(); i++) {
            balloons.append(i == 0 ? "" : ";").append("5,00").append(ropes.charAt(i)).append('0');
        }
        BalloonsMoor x = Desk.harbour("00;01;02;03;04;05", balloons.toString());
        for (int b = 0; b < ropes.length(); b++) {
            x.launch(b);
            x.moor(b, b);
        }
        x.rests(4);
        Desk.due("ropes " + ropes, x.storm(), order.length);
        Desk.dueRow("ropes " + ropes, x, order);
    }

    private static void promise32() {
        String p = "Promise 32";
        Sentences.holds(p, "A storm: in each HOUR one MOORED BALLOON can be let down, the first in the first HOUR;"
            + " one whose ROPE is v is LOST, if it is not let down in one of the first v HOURS", () -> {
            storm("1", 0);
            storm("11", 0);
            storm("21", 1, 0);
            storm("22", 0, 1);
            storm("222", 0, 1);
            storm("333", 0, 1, 2);
            storm("654321", 5, 4, 3, 2, 1, 0);
            storm("555555", 0, 1, 2, 3, 4);
            storm("666666", 0, 1, 2, 3, 4, 5);
            storm("999999", 0, 1, 2, 3, 4, 5);
            storm("111111", 0);
            BalloonsMoor x = Desk.harbour("00;01", "5,0010;5,0020;5,0030");
            x.rests(4);
            x.launch(0);
            Desk.due("nobody is moored", x.storm(), 0);
            Desk.dueRow("nobody is moored", x);
            x.launch(2);
            x.moor(2, 0);
            Desk.due("the moored one alone", x.storm(), 1);
            Desk.dueRow("the moored one alone", x, 2);
        });
        Sentences.holds(p, "the most that are saved: how many; the ROW: in which order (of as many the least row;"
            + " those that are saved alone).", () -> {
            storm("211", 1, 0);
            storm("321123", 0, 1, 5);
            storm("311222", 1, 3, 0);
            storm("932", 0, 2, 1);
            storm("2321", 0, 2, 1);
            storm("9111", 1, 0);
            storm("991", 2, 0, 1);
            storm("331", 2, 0, 1);
            storm("332", 0, 2, 1);
        });
    }

    private static void promise33() {
        String p = "Promise 33";
        Sentences.holds(p, "Two sellers ask prices 1 .. 9 for SACKS; the cheaper one sells 6, the other 0 (of like prices 3 each);"
            + " each pays c (0 .. 9) for each that it sells. Pairs of prices by which neither would get more by another price"
            + " alone: how many; the ROW: the least (the first's, the second's; nothing without).", () -> {
            BalloonsMoor x = new BalloonsMoor();
            int[] pairs = {2, 3, 3, 3, 3, 3, 3, 3, 2, 1};
            int[] first = {1, 1, 2, 3, 4, 5, 6, 7, 8, 9};
            for (int c = 0; c <= 9; c++) {
                Desk.due("rests " + c, x.rests(c), pairs[c]);
                Desk.dueRow("rests " + c, x, first[c], first[c]);
            }
        });
        Sentences.holds(p, "NONE: another c.", () -> {
            BalloonsMoor x = new BalloonsMoor();
            for (int c : new int[] {10, -1, LEAST, MOST}) {
                Desk.due("c " + c, x.rests(c), -1);
            }
        });
    }

    private static BalloonsMoor marked(int what, int v) {
        BalloonsMoor x = Desk.harbour("00;11;22;33;44;55;66;77", "9,0010;9,1050;9,9990");
        Desk.due("mark " + what + " " + v, x.mark(0, what, v), 1);
        return x;
    }

    private static void promise34() {
        Sentences.holds("Promise 34", "It was seen at a RING: what 0: ROPE of who lay there was v or more;"
            + " 1: WEIGHT was v or less; 2: its number was not v: how many such.", () -> {
            int[][] marks = {{0, 0, 7}, {0, 1, 7}, {0, 2, 6}, {0, 5, 6}, {0, 6, 4}, {0, 9, 4}, {0, 10, 0}, {0, 99, 0},
                {1, 0, 1}, {1, 4, 1}, {1, 5, 3}, {1, 6, 3}, {1, 80, 3}, {1, 81, 7}, {1, 99, 7},
                {2, 0, 6}, {2, 1, 5}, {2, 2, 3}, {2, 3, 7}, {2, 99, 7}};
            for (int[] mark : marks) {
                Desk.due("who fits " + mark[0] + " " + mark[1], marked(mark[0], mark[1]).lay(0), mark[2]);
            }
            BalloonsMoor x = marked(0, 1);
            for (int i = 2; i <= 12; i++) {
                Desk.due("how many", x.mark(i % 8, i % 3, i), i);
            }
            Desk.due("how many", x.count(8), 12);
        });
        Sentences.holds("Promise 35", "They are wiped off: how many there were.", () -> {
            BalloonsMoor x = marked(0, 99);
            Desk.due("one", x.wipe(), 1);
            Desk.due("none", x.wipe(), 0);
            Desk.due("all fit", x.lay(0), 7);
            for (int i = 0; i < 12; i++) {
                x.mark(i % 8, 0, 99);
            }
            Desk.due("twelve", x.wipe(), 12);
            Desk.due("there is room again", x.mark(7, 2, 0), 1);
            Desk.due("of the new one alone", x.ways(), 2);
        });
    }

    private static void promise34Refused() {
        Sentences.holds("Promise 34", "Refused: others (v 0 .. 99), 12.", () -> {
            BalloonsMoor x = marked(0, 1);
            for (int what = 0; what <= 2; what++) {
                for (int v : new int[] {100, -1, LEAST, MOST}) {
                    Desk.due("v " + v, x.mark(0, what, v), -1);
                }
            }
            for (int what : new int[] {3, -1, LEAST, MOST}) {
                Desk.due("what " + what, x.mark(0, what, 1), -1);
            }
            for (int r : new int[] {8, -1, LEAST, MOST}) {
                Desk.due("ring " + r, x.mark(r, 0, 1), -1);
            }
            Desk.due("one still", x.count(8), 1);
            for (int i = 2; i <= 12; i++) {
                Desk.due("up to 12", x.mark(7, 2, i % 2 * 99), i);
            }
            Desk.due("a thirteenth", x.mark(0, 0, 1), -1);
            Desk.due("at another ring", x.mark(3, 2, 1), -1);
            Desk.due("12 still", x.count(8), 12);
            Desk.due("as it was", x.lay(3), 7);
        });
    }

    private static void promise36() {
        String p = "Promise 36";
        Sentences.holds(p, "BALLOONS (bits) that fit all marks of a RING; the ROW: how many.", () -> {
            BalloonsMoor x = Desk.harbour("00;11", "9,0010;9,1050;9,9990;9,0050");
            Desk.due("no marks", x.lay(0), 15);
            Desk.dueRow("no marks", x, 4);
            x.mark(0, 0, 5);
            Desk.due("one mark", x.lay(0), 14);
            x.mark(0, 1, 5);
            Desk.due("two marks", x.lay(0), 10);
            Desk.dueRow("two marks", x, 2);
            x.mark(0, 2, 1);
            x.mark(0, 2, 3);
            Desk.due("nobody fits all four", x.lay(0), 0);
            Desk.dueRow("nobody fits all four", x, 0);
            Desk.due("marks of another ring do nothing", x.lay(1), 15);
            Desk.tower(x, "00");
            Desk.due("no balloons", x.lay(0), 0);
        });
        Sentences.holds(p, "NONE: none such.", () -> {
            BalloonsMoor x = Desk.harbour("00;11", "9,0010");
            for (int r : new int[] {2, 8, -1, LEAST, MOST}) {
                Desk.due("lay " + r, x.lay(r), -1);
            }
            Desk.due("the last one", x.lay(1), 1);
        });
    }

    private static void promise37() {
        Sentences.holds("Promise 37", "Ways to have unlike BALLOONS at all RINGS that have marks, each fitting: how many;"
            + " the ROW: the least row, by these RINGS (nothing without).", () -> {
            BalloonsMoor x = Desk.harbour("00;11;22;33;44;55;66;77", "9,0010;9,0020;9,0030");
            x.rests(4);
            Desk.due("no marks: one way, with nobody", x.ways(), 1);
            Desk.dueRow("nothing", x);
            x.mark(7, 0, 2);
            Desk.due("two at the last ring", x.ways(), 2);
            Desk.dueRow("the least", x, 1);
            x.mark(0, 0, 1);
            Desk.due("unlike ones", x.ways(), 4);
            Desk.dueRow("by rings, not by marks", x, 0, 1);
            x.mark(7, 0, 3);
            Desk.due("the third at the last", x.ways(), 2);
            Desk.dueRow("the third at the last", x, 0, 2);
            x.mark(4, 0, 1);
            Desk.due("three", x.ways(), 2);
            Desk.dueRow("three", x, 0, 1, 2);
            x.mark(0, 2, 1);
            Desk.due("one way alone", x.ways(), 1);
            Desk.dueRow("one way alone", x, 0, 1, 2);
            x.mark(2, 0, 0);
            Desk.due("four rings, three balloons", x.ways(), 0);
            Desk.dueRow("nothing", x);
            x.wipe();
            x.rests(4);
            x.mark(3, 0, 99);
            Desk.due("nobody fits", x.ways(), 0);
            Desk.dueRow("nothing", x);
            BalloonsMoor y = Desk.harbour("00;11;22;33;44;55;66;77", "9,0010;9,0010;9,0010;9,0010;9,0010;9,0010");
            for (int r = 2; r < 8; r++) {
                y.mark(r, 0, 0);
            }
            Desk.due("six at six", y.ways(), 720);
            Desk.dueRow("six at six", y, 0, 1, 2, 3, 4, 5);
        });
    }

    private static void promise38() {
        Sentences.holds("Promise 38", "RINGS (bits) with marks at which the same BALLOON lay in all such ways; the ROW: who, by"
            + " these RINGS. (0 and an empty ROW, if there are no ways, no marks.)", () -> {
            BalloonsMoor x = Desk.harbour("00;11;22;33;44;55;66;77", "9,0010;9,0020;9,0030");
            x.rests(4);
            Desk.due("no marks", x.sure(), 0);
            Desk.dueRow("no marks", x);
            x.mark(7, 0, 2);
            x.rests(4);
            Desk.due("two ways", x.sure(), 0);
            Desk.dueRow("nobody is sure", x);
            x.mark(7, 0, 3);
            Desk.due("one way", x.sure(), 128);
            Desk.dueRow("one way", x, 2);
            x.mark(0, 0, 1);
            Desk.due("the last ring alone", x.sure(), 128);
            Desk.dueRow("the last ring alone", x, 2);
            x.mark(4, 0, 2);
            Desk.due("all of them", x.sure(), 1 + 16 + 128);
            Desk.dueRow("by rings", x, 0, 1, 2);
            x.mark(3, 0, 0);
            Desk.due("no ways", x.sure(), 0);
            Desk.dueRow("no ways", x);
            BalloonsMoor y = Desk.harbour("00;11;22;33;44;55;66;77", "9,0010;9,0010;9,0080;9,0090");
            y.mark(1, 0, 9);
            y.mark(2, 0, 1);
            y.mark(2, 2, 0);
            y.mark(2, 2, 1);
            y.mark(5, 0, 1);
            Desk.due("two, and one of the others at the third", y.sure(), 2 + 4);
            Desk.dueRow("two, and one of the others at the third", y, 3, 2);
            y.mark(6, 0, 1);
            Desk.due("two, and the others one way or the other", y.sure(), 2 + 4);
            y.wipe();
            y.mark(3, 0, 1);
            y.mark(4, 0, 1);
            y.mark(5, 0, 9);
            y.mark(6, 0, 1);
            Desk.due("the third of four", y.sure(), 32);
            Desk.dueRow("the third of four", y, 3);
        });
    }
}
