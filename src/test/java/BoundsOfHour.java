/** Boundary sentences of AN HOUR, THE LAW, the ROW, refused calls and the heads of the interface. */
final class BoundsOfHour {
    private static final String T = "Terms 1";

    private BoundsOfHour() {
    }

    static void run() {
        drift();
        leak();
        tear();
        touch();
        now();
        comeDown();
        farOff();
        law();
        rows();
        berthHead();
        landingHead();
        markHead();
    }

    private static void drift() {
        Sentences.holds(T, "(1) each FREE one drifts by the WIND of its HIGH (as all is ahead)", () -> {
            BalloonsMoor x = Desk.harbour("50", "50,0012;50,0010;50,0010;50,0010");
            Desk.blown(x, "-/-/-/-/42/21/-/-/-/-");
            x.launch(0);
            x.launch(1);
            x.launch(2);
            x.moor(2, 0);
            x.hours(1);
            Desk.due("by the gas ahead of the leak", x.balloon(0, 9), Desk.cell(1, 0));
            x.hours(1);
            Desk.due("by the gas of now", x.balloon(0, 9), Desk.cell(1, 2));
            Desk.due("each one", x.balloon(1, 9), Desk.cell(2, 0));
            Desk.due("a moored one not", x.balloon(2, 8), 0);
            x.cast(2);
            Desk.due("from the tower", x.balloon(2, 9), Desk.cell(0, 0));
            BalloonsMoor y = Desk.harbour("", "1,0010");
            Desk.blown(y, "-/21/42/-/-/-/-/-/-/-");
            Desk.ruled(y, "(h=0)*10+(h=1)*20");
            y.launch(0);
            y.hours(1);
            Desk.due("by the hour ahead of it", y.balloon(0, 9), Desk.cell(1, 0));
            y.hours(1);
            Desk.due("and the next", y.balloon(0, 9), Desk.cell(1, 2));
        });
        Sentences.holds(T, "beyond 9 or -9 it is LOST", () -> {
            for (int way = 0; way < 8; way++) {
                for (int strong = 1; strong <= 3; strong++) {
                    BalloonsMoor x = Desk.harbour("", "9,0011");
                    Desk.blown(x, "" + way + strong + "/-/-/-/-/-/-/-/-/-");
                    Desk.ruled(x, "5");
                    x.launch(0);
                    int within = 9 / strong;
                    x.hours(within);
                    Desk.due("within", x.balloon(0, 7), 1);
                    x.hours(1);
                    Desk.dueRow("beyond", x, 0, 1);
                    Desk.due("lost", x.balloon(0, 7), 3);
                    Desk.due("it leaks no more", x.balloon(0, 0), 9 - within);
                    x.hours(9);
                    Desk.dueRow("once", x, 0, 0);
                    Desk.due("lost for good", x.balloon(0, 7), 3);
                }
            }
        });
    }

    private static void leak() {
        Sentences.holds(T, "(2) GAS of each that is FREE or MOORED is less by its LEAK (0 at least)", () -> {
            BalloonsMoor x = Desk.harbour("00", "20,0019;20,0019;20,0019;20,0010;20,0019");
            Desk.blown(x, "-/23/-/-/-/-/-/-/-/-");
            Desk.ruled(x, "(b=4)*15");
            x.launch(0);
            x.moor(0, 0);
            x.launch(1);
            x.launch(3);
            x.launch(4);
            x.hours(1);
            int[] one = {11, 11, 20, 20, 11};
            for (int b = 0; b < 5; b++) {
                Desk.due("gas " + b, x.balloon(b, 0), one[b]);
            }
            x.hours(1);
            Desk.due("2", x.balloon(0, 0), 2);
            x.hours(1);
            Desk.due("not below 0", x.balloon(0, 0), 0);
            Desk.due("free, not below 0", x.balloon(1, 0), 0);
            x.undo();
            x.hours(2);
            int[] four = {0, 0, 20, 20, 0};
            for (int b = 0; b < 5; b++) {
                Desk.due("gas " + b, x.balloon(b, 0), four[b]);
            }
            Desk.due("4 is lost", x.count(6), 16);
        });
    }

    private static void tear() {
        Sentences.holds(T, "(3) Each that is MOORED has GAS 1 less (0 at least) for each other one that it TOUCHES", () -> {
            BalloonsMoor x = Desk.harbour("00;00;00;00;00;00", "9,0010;4,0010;5,0010;6,0010;1,0010;9,0019");
            Desk.ruled(x, "1");
            Desk.hang(x, 0, 1, 2, 3, 4, 5);
            x.hours(1);
            int[] gas = {4, 0, 0, 1, 0, 0};
            for (int b = 0; b < 6; b++) {
                Desk.due("five others, gas " + b, x.balloon(b, 0), gas[b]);
            }
            BalloonsMoor y = Desk.harbour("40;50;60", "45,0010;55,0010;65,0010");
            Desk.hang(y, 0, 1, 2);
            y.hours(1);
            Desk.due("one other", y.balloon(0, 0), 44);
            Desk.due("two others", y.balloon(1, 0), 53);
            Desk.due("one other", y.balloon(2, 0), 64);
        });
        Sentences.holds(T, "as all is ahead of (3)", () -> {
            BalloonsMoor x = Desk.harbour("00;10;20", "1,0010;1,0010;3,0010");
            Desk.ruled(x, "(g+2)*9-18+(b=2)*9");
            Desk.hang(x, 0, 1, 2);
            Desk.ruled(x, "g-1");
            x.hours(1);
            Desk.dueRow("two come down behind it", x, 3, 0);
            Desk.due("and yet have torn the third", x.balloon(2, 0), 2);
            x.hours(1);
            Desk.due("not any more", x.balloon(2, 0), 2);
        });
    }

    /** Two hang at two RINGS: how much GAS an HOUR tears off both together. */
    private static int torn(int height, int side, int otherHeight, int otherSide) {
        String balloons = height + "5,0010;" + otherHeight + "5,0010";
        BalloonsMoor x = Desk.harbour("" + height + side + ";" + otherHeight + otherSide, balloons);
        Desk.hang(x, 0, 1);
        int ahead = x.balloon(0, 0) + x.balloon(1, 0);
        Desk.due("touches() says so too", x.touches() == 1, Math.abs(height - otherHeight) <= 1 && side == otherSide);
        x.hours(1);
        return ahead - x.balloon(0, 0) - x.balloon(1, 0);
    }

    private static void touch() {
        Sentences.holds(T, "TOUCHES (MOORED at a like SIDE, HEIGHTS of RINGS at most 1 apart", () -> {
            Desk.due("like heights", torn(3, 0, 3, 0), 2);
            Desk.due("one higher", torn(3, 0, 4, 0), 2);
            Desk.due("one lower", torn(3, 7, 2, 7), 2);
            Desk.due("two higher", torn(3, 0, 5, 0), 0);
            Desk.due("two lower", torn(3, 7, 1, 7), 0);
            Desk.due("the next side", torn(3, 4, 3, 5), 0);
            Desk.due("the first and the last side", torn(3, 0, 3, 7), 0);
            BalloonsMoor x = Desk.harbour("30;30", "35,0010;35,0010;35,0010");
            x.launch(0);
            x.moor(0, 0);
            x.launch(1);
            x.hours(1);
            Desk.due("a free one touches nobody, nor one in the yard", x.balloon(0, 0), 35);
            Desk.due("nor is it touched", x.balloon(1, 0) + x.balloon(2, 0), 70);
        });
    }

    private static void now() {
        Sentences.holds(T, "(4) NOW (HOURS, at first 0) is 1 more", () -> {
            BalloonsMoor x = Desk.harbour("", "9,0010");
            Desk.due("at first", x.count(2), 0);
            Desk.due("an hour", x.hours(1), 1);
            Desk.due("now", x.count(2), 1);
            Desk.due("48 more", x.hours(48), 49);
        });
    }

    private static void comeDown() {
        Sentences.holds(T, "then each that is FREE or MOORED and has LIFT below 0 comes down", () -> {
            BalloonsMoor x = Desk.harbour("00", "3,0011;3,0011;3,0011;0,0010;9,0010");
            Desk.ruled(x, "g-1");
            x.launch(0);
            x.launch(1);
            x.moor(1, 0);
            Desk.due("no lift", x.launch(3), -3);
            x.hours(2);
            Desk.dueRow("lift 0 stays up", x, 0, 0);
            x.hours(1);
            Desk.dueRow("lift -1 comes down, but who is down already does not", x, 3, 0);
            Desk.due("all are in the yard", x.count(3), 31);
            x.hours(1);
            Desk.dueRow("once", x, 0, 0);
            Desk.due("gas", x.balloon(0, 0), 0);
            BalloonsMoor y = Desk.harbour("", "9,0010");
            Desk.ruled(y, "1-(h=2)*2");
            y.launch(0);
            y.hours(1);
            Desk.dueRow("by the hour behind it", y, 0, 0);
            y.hours(1);
            Desk.dueRow("by the hour behind it", y, 1, 0);
        });
        Sentences.holds(T, "a MOORED one to THE YARD", () -> {
            BalloonsMoor x = Desk.harbour("10", "19,0090");
            Desk.blown(x, "-/23/-/-/-/-/-/-/-/-");
            x.launch(0);
            x.hours(1);
            Desk.due("moored from 3 off", x.moor(0, 0), 1);
            Desk.ruled(x, "0-1");
            x.hours(1);
            Desk.dueRow("to the yard", x, 1, 0);
            Desk.due("in the yard", x.balloon(0, 7), 0);
            Desk.due("its ring is free", x.ring(0, 2), -1);
            Desk.due("no ring", x.balloon(0, 8), -1);
        });
    }

    /** Two HOURS of such winds, and it comes down: 0 to the yard, 3 lost. */
    private static int down(String first, String second) {
        BalloonsMoor x = Desk.harbour("", "9,0010");
        Desk.blown(x, "-/" + first + "/" + second + "/-/-/-/-/-/-/-");
        Desk.ruled(x, "(h=0)*10+(h=1)*20-(h=2)");
        x.launch(0);
        x.hours(1);
        Desk.due("still up", x.balloon(0, 7), 1);
        x.hours(1);
        int where = x.balloon(0, 7);
        Desk.dueRow("told", x, where == 0 ? 1 : 0, where == 3 ? 1 : 0);
        return where;
    }

    private static void farOff() {
        Sentences.holds(T, "a FREE one to THE YARD, if x and y (without signs) are 2 together or less, else it is LOST.", () -> {
            Desk.due("over the tower", down("-", "-"), 0);
            Desk.due("there and back", down("23", "63"), 0);
            for (int way = 0; way < 8; way++) {
                boolean eighth = way % 2 == 1;
                Desk.due("1 by " + way, down(way + "1", "-"), 0);
                Desk.due("2 by " + way, down(way + "2", "-"), eighth ? 3 : 0);
                Desk.due("3 by " + way, down(way + "3", "-"), 3);
                Desk.due("1 and 1 by " + way, down(way + "1", way + "1"), eighth ? 3 : 0);
                Desk.due("2 and 1 by " + way, down(way + "2", way + "1"), 3);
                int next = (way + 1) % 8;
                Desk.due("1 by " + way + " and the next", down(way + "1", next + "1"), 3);
            }
        });
    }

    private static int breach(String rule, String tower, String balloons) {
        BalloonsMoor x = Desk.harbour(tower, balloons);
        Desk.ruled(x, rule);
        Desk.hang(x, 0, 1);
        return x.breaches();
    }

    private static void law() {
        Sentences.holds(T, "at RINGS of a like SIDE, none hangs higher (by HEIGHT) than another one that is lighter"
            + " (by WEIGHT): such a pair (the higher, heavier one; the lower, lighter one) is a BREACH.", () -> {
            String rule = "b*30+35";
            Desk.due("5 above 4", breach(rule, "30;60", "9,0110;9,1010"), 1);
            Desk.due("4 above 4", breach(rule, "30;60", "9,0110;9,0110"), 0);
            Desk.due("4 above 5", breach(rule, "30;60", "9,1010;9,0110"), 0);
            Desk.due("20 above 20", breach(rule, "30;60", "9,4010;9,0510"), 0);
            Desk.due("20 above 19", breach(rule, "30;60", "9,3110;9,0510"), 1);
            Desk.due("another side", breach(rule, "30;61", "9,0110;9,1010"), 0);
            Desk.due("the last side", breach(rule, "37;67", "9,0110;9,1010"), 1);
            Desk.due("the nearest heights", breach(rule, "40;50", "9,0110;9,1010"), 1);
            Desk.due("5 apart", breach(rule, "20;70", "9,0110;9,1010"), 1);
            Desk.due("the first one above", breach("65-b*30", "60;30", "9,1010;9,0110"), 1);
            Desk.due("the first one below", breach("65-b*30", "60;30", "9,0110;9,1010"), 0);
            Desk.due("like heights", breach("45", "40;40", "9,0110;9,1010"), 0);
        });
    }

    private static void rows() {
        String t = "Terms 2";
        Sentences.holds(t, "ROW: numbers told last by a call that says so.", () -> {
            BalloonsMoor x = Desk.harbour("00", "9,0010");
            Desk.dueRow("none told", x);
            x.rests(4);
            Desk.dueRow("told", x, 4, 4);
            x.launch(0);
            x.moor(0, 0);
            x.cast(0);
            x.sacks(0, 1);
            x.cargo(0, 1);
            x.rain(1);
            x.sheet(2, 1, 1, 1);
            x.mark(0, 0, 0);
            x.wipe();
            x.keep(0);
            x.again(0);
            x.undo();
            x.count(0);
            Desk.ruled(x, "1");
            Desk.blown(x, "-/-/-/-/-/-/-/-/-/-");
            Desk.tower(x, "00");
            Desk.balloons(x, "9,0010");
            x.fill(0, 1);
            Desk.dueRow("these tell none", x, 4, 4);
            x.touches();
            Desk.dueRow("told, without a pair", x);
        });
        Sentences.holds(t, "Sets are bits.", () -> {
            BalloonsMoor x = Desk.harbour("00;11;22;33;44;55;66;77", "9,0010;9,0010;9,0010;9,0010;9,0010;9,0010");
            Desk.due("balloons", x.count(3), 63);
            Desk.due("rings", x.yields(0), 255);
            x.launch(5);
            Desk.due("the last", x.count(4), 32);
            Desk.due("the first ones", x.count(3), 31);
            Desk.due("the last told", x.berths(32), 8);
        });
        Sentences.holds(t, "Rows are compared from the first number on.", () -> {
            BalloonsMoor x = Desk.harbour("30;50;31;70", "10,0010;10,1010");
            Desk.due("0 2 is less than 1 0", x.berths(3), 9);
            Desk.dueRow("0 2 is less than 1 0", x, 0, 2);
        });
        Sentences.holds(t, "Fractions are told in lowest terms, upper and lower number (0 by 1).", () -> {
            BalloonsMoor x = Desk.harbour("", "5,0010");
            Desk.blown(x, "21/-/-/-/-/-/-/-/-/-");
            x.launch(0);
            x.chance(0, 1, 4, 0);
            Desk.dueRow("6 of 10", x, 3, 5);
            x.chance(0, 2, 5, 1);
            Desk.dueRow("75 of 100", x, 3, 4);
            x.chance(0, 8, 1, 7);
            Desk.dueRow("all but one of 100000000", x, 99999999, 100000000);
            x.chance(0, 8, 10, 0);
            Desk.dueRow("none of 100000000", x, 0, 1);
            x.chance(0, 8, 10, 8);
            Desk.dueRow("all of 100000000", x, 1, 1);
        });
    }

    private static void berthHead() {
        String h = "Heads";
        Sentences.holds(h, "(RINGS as if all were free", () -> {
            BalloonsMoor x = Desk.harbour("30;50;31", "35,1010;55,0110;35,0010");
            Desk.due("two at three rings", x.berths(3), 5);
            x.launch(2);
            x.moor(2, 0);
            x.launch(1);
            x.moor(1, 1);
            Desk.due("two rings are taken", x.count(5), 6);
            Desk.due("as many", x.berths(3), 5);
            Desk.dueRow("the taken rings too", x, 0, 1);
            Desk.due("who is moored", x.berths(4), 3);
            Desk.due("served", x.served(7), 3);
            Desk.dueRow("served", x, 7);
        });
        Sentences.holds(h, "BALLOONS with WEIGHT as it is, wherever they are)", () -> {
            BalloonsMoor x = Desk.harbour("50;70", "55,0090;95,2090");
            Desk.blown(x, "-/-/-/-/-/-/-/-/23/-");
            Desk.due("like weights at most: the heavier one below", x.berths(3), 1);
            Desk.dueRow("the heavier one below", x, 1, 0);
            x.sacks(1, -2);
            Desk.due("like weights", x.berths(3), 2);
            Desk.dueRow("like weights", x, 0, 1);
            x.cargo(0, 1);
            Desk.due("the other one is heavier", x.berths(3), 1);
            Desk.dueRow("the other one is heavier", x, 0, 1);
            x.cargo(1, 3);
            x.launch(1);
            Desk.due("free", x.berths(3), 1);
            Desk.dueRow("free", x, 1, 0);
            x.hours(4);
            Desk.due("lost", x.balloon(1, 7), 3);
            Desk.due("lost ones too", x.berths(3), 1);
            Desk.dueRow("lost ones too", x, 1, 0);
            Desk.due("lost ones are served too", x.served(3), 2);
        });
    }

    private static void landingHead() {
        String h = "Heads";
        Sentences.holds(h, "landings (a FREE one, alone: ahead of each HOUR any SACKS are dropped; LEAK as ever)", () -> {
            BalloonsMoor x = Desk.harbour("90;00", "95,9010;1,0011");
            Desk.blown(x, "-/-/-/-/22/-/-/-/-/61");
            Desk.ruled(x, "g-s*5-1");
            x.launch(0);
            x.hours(1);
            x.launch(1);
            x.moor(1, 1);
            Desk.due("the other one is gone in an hour", x.drifts(1, 1), 0);
            Desk.due("yet its ring is not free", x.lands(0, 1, 6), -4);
            Desk.due("all at once", x.lands(0, 0, 6), 9);
            Desk.dueRow("all ahead of the first hour", x, 1, 9, 0);
            BalloonsMoor y = Desk.harbour("10;60", "35,9095;12,0019");
            Desk.ruled(y, "g+(g=0)*50");
            y.launch(0);
            y.launch(1);
            Desk.due("it leaks 5 an hour", y.lands(0, 0, 6), 0);
            Desk.dueRow("it leaks 5 an hour", y, 2, 0, 0, 0);
            Desk.due("it leaks to 0", y.lands(1, 1, 6), 0);
            Desk.dueRow("it leaks to 0", y, 2, 0, 0, 0);
        });
    }

    private static void markHead() {
        Sentences.holds("Heads", "who lay where (marks at RINGS; ROPE, WEIGHT as they are when it is asked)", () -> {
            BalloonsMoor x = Desk.harbour("00;11", "5,1030;5,0040");
            x.mark(0, 1, 5);
            Desk.due("both", x.lay(0), 3);
            x.sacks(0, 1);
            Desk.due("too heavy by now", x.lay(0), 2);
            x.sacks(0, -1);
            Desk.due("both again", x.lay(0), 3);
            x.mark(0, 0, 4);
            Desk.due("rope", x.lay(0), 2);
            Desk.balloons(x, "5,0050");
            Desk.due("who came since too", x.lay(0), 6);
            Desk.due("ways too", x.ways(), 2);
            x.cargo(2, 2);
            Desk.due("sure too", x.sure(), 1);
            Desk.dueRow("sure too", x, 1);
        });
    }
}
