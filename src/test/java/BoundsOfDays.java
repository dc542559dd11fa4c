/** Boundary sentences of promises 19 to 21: HOURS, days, undoing. */
final class BoundsOfDays {
    private static final String P20 = "Promise 20";
    private static final String P21 = "Promise 21";
    private static final String ACTS_19 = "h0;h0;h0;h0;h0;h0;h0;h0;h0;h0;h0;h0;h0;h0;h0;h0;h0;h0;h0;";

    private BoundsOfDays() {
    }

    static void run() {
        promise19();
        dayOfActs();
        dayTillRefused();
        dayFaults();
        dayLimit();
        undoLatest();
        undoSuchAsWereDone();
        undoDays();
        undoWhat();
        undoForgets();
    }

    private static void promise19() {
        String p = "Promise 19";
        Sentences.holds(p, "n HOURS (0 .. 48) go by: NOW", () -> {
            BalloonsMoor x = Desk.harbour("", "99,0011");
            x.launch(0);
            Desk.due("0", x.hours(0), 0);
            Desk.due("gas", x.balloon(0, 0), 99);
            Desk.dueRow("0", x, 0, 0);
            Desk.due("1", x.hours(1), 1);
            Desk.due("gas", x.balloon(0, 0), 98);
            Desk.due("48", x.hours(48), 49);
            Desk.due("gas", x.balloon(0, 0), 50);
            Desk.due("47", x.hours(47), 96);
            Desk.due("gas", x.balloon(0, 0), 3);
        });
        Sentences.holds(p, "the ROW: BALLOONS (bits) that came to THE YARD in these, that were LOST.", () -> {
            BalloonsMoor x = Desk.harbour("10", "19,0011;19,0011;5,0010;19,0010;19,0011;19,0010");
            Desk.blown(x, "-/-/-/-/-/-/-/-/-/-");
            Desk.ruled(x, "g-(b<2)*17-(b=4)*17+(b=5)*21");
            x.launch(0);
            x.launch(1);
            x.moor(0, 0);
            x.launch(4);
            x.launch(5);
            Desk.blown(x, "21/-/-/-/23/-/-/-/-/-");
            Desk.due("2 hours", x.hours(2), 2);
            Desk.dueRow("nobody", x, 0, 0);
            x.undo();
            Desk.due("4 hours", x.hours(4), 4);
            Desk.dueRow("one moored to the yard; two too far, one beyond", x, 1, 2 + 16 + 32);
            x.hours(4);
            Desk.dueRow("in these alone", x, 0, 0);
            BalloonsMoor y = Desk.harbour("", "9,0010;9,0010;9,0010;9,0010;9,0010;9,0010");
            for (int b = 0; b < 6; b++) {
                y.launch(b);
            }
            Desk.ruled(y, "-(b=2)-(b=5)");
            y.hours(1);
            Desk.dueRow("two", y, 4 + 32, 0);
            Desk.ruled(y, "0-1");
            y.hours(1);
            Desk.dueRow("the others", y, 63 - 4 - 32, 0);
        });
        Sentences.holds(p, "Refused: another n.", () -> {
            BalloonsMoor x = Desk.harbour("", "9,0010");
            for (int n : new int[] {49, -1, Integer.MIN_VALUE, Integer.MAX_VALUE}) {
                Desk.due("hours " + n, x.hours(n), -1);
            }
            Desk.due("now", x.count(2), 0);
            Desk.due("no act", x.count(9), 0);
        });
    }

    private static BalloonsMoor moorable() {
        BalloonsMoor x = Desk.harbour("50;60", "55,0010;55,2010;4,1010;55,0010");
        Desk.blown(x, "-/-/-/-/23/-/-/-/-/-");
        return x;
    }

    private static void dayOfActs() {
        Sentences.holds(P20, "THE TEXT tells A DAY (an empty one: nothing)", () -> {
            BalloonsMoor x = moorable();
            x.rests(4);
            Desk.due("nothing", Desk.day(x, ""), 0);
            Desk.dueRow("nothing refused, nobody lost", x, 0, 0);
            Desk.due("no act to undo", x.count(9), 0);
            Desk.day(x, "h1");
            Desk.day(x, "");
            Desk.due("nothing of the day ahead either", x.count(2), 1);
            Desk.due("that can be undone still", x.undo(), 0);
            Desk.due("now", x.count(2), 0);
        });
        Sentences.holds(P20, "ACTS with ; between: l and a digit: launch(); m, a digit, a digit (RING): moor();"
            + " c and a digit: cast(); s, a digit, + or -, a digit: sacks(); h and a number (1 or 2 digits): hours()", () -> {
            BalloonsMoor x = moorable();
            Desk.due("each kind", Desk.day(x, "l0;m01;s0+9;s0-9;h1;c0;s1-2;h02;l1;m10;h10"), 11);
            Desk.dueRow("done", x, 0, 0);
            Desk.due("now", x.count(2), 13);
            Desk.due("free", x.count(4), 1);
            Desk.due("moored", x.count(5), 2);
            Desk.due("sacks", x.balloon(1, 1), 0);
            Desk.due("least and most hours", Desk.day(x, "h0;h00;h48;h9"), 4);
            Desk.due("now", x.count(2), 13 + 57);
            String[] beyond = {"l4", "l9", "m49", "m02", "m09", "c4", "c9", "s4+1", "s1+0", "s1-0", "h49", "h99"};
            for (String act : beyond) {
                Desk.due(act + " can be told, yet not be done", Desk.day(x, act), 0);
                Desk.dueRow(act, x, 1, 0);
            }
        });
    }

    private static void dayTillRefused() {
        Sentences.holds(P20, "they are done one by one, till one is refused (it answers below 0): how many were done", () -> {
            BalloonsMoor x = moorable();
            Desk.due("-2 ends it", Desk.day(x, "h1;c0;h1"), 1);
            Desk.due("now", x.count(2), 1);
            Desk.due("-3 ends it", Desk.day(x, "l2;h1"), 0);
            Desk.due("now", x.count(2), 1);
            Desk.due("-1 ends it", Desk.day(x, "h1;h1;l9;h1"), 2);
            Desk.due("now", x.count(2), 3);
            Desk.due("the last one", Desk.day(x, "l0;m00;m00"), 2);
            Desk.due("0 does not: of high 0, to sacks 0, at ring 0, by hours", Desk.day(x, "s2-1;l2;c0;s1-2;h0;h1"), 6);
        });
        Sentences.holds(P20, "the ROW: 1 if one was refused, else 0; how many were LOST in these.", () -> {
            BalloonsMoor x = moorable();
            Desk.due("all done", Desk.day(x, "l0"), 1);
            Desk.dueRow("all done", x, 0, 0);
            Desk.due("none done", Desk.day(x, "l0"), 0);
            Desk.dueRow("none done", x, 1, 0);
            Desk.due("one is lost", Desk.day(x, "l1;h3;h1"), 3);
            Desk.dueRow("one is lost", x, 0, 1);
            x.fill(3, 45);
            Desk.due("another; the one ahead is not told again", Desk.day(x, "l3;h4;c9;h1"), 2);
            Desk.dueRow("another", x, 1, 1);
            x.undo();
            x.undo();
            x.undo();
            x.fill(3, 45);
            Desk.due("two at once", Desk.day(x, "l1;l3;h4"), 3);
            Desk.dueRow("two at once", x, 0, 2);
        });
    }

    private static void fault(String text, int p) {
        BalloonsMoor x = moorable();
        Desk.due("day " + text, Desk.day(x, text), -1 - p);
        Desk.due("nothing is done", x.count(2) * 100 + x.count(4), 0);
        Desk.due("the text is empty", x.count(11), 0);
    }

    private static void dayFaults() {
        Sentences.holds(P20, "-1 - p: the sign at p can't stand there", () -> {
            String[] wrong = {"x", ";", "L", "/", ":", " ", "\0", "\u00ff"};
            for (String sign : wrong) {
                fault(sign, 0);
                fault("h1;" + sign, 3);
                fault("l" + sign, 1);
                fault("m" + sign, 1);
                fault("m0" + sign, 2);
                fault("c" + sign, 1);
                fault("s" + sign, 1);
                fault("s0" + sign, 2);
                fault("s0+" + sign, 3);
                fault("s0-" + sign, 3);
                fault("h" + sign, 1);
            }
            for (String act : new String[] {"l0", "m00", "c0", "s0+1", "s0-1", "h10"}) {
                fault(act + "0", act.length());
                fault(act + "x", act.length());
                fault(act + "l", act.length());
            }
            fault("s01", 2);
            fault("s0+-1", 3);
            fault("h-1", 1);
            fault("h1l0", 2);
            fault("h123", 3);
        });
        Sentences.holds(P20, "(its end, if it ends too early", () -> {
            for (String act : new String[] {"l0", "m00", "c0", "s0+1", "s0-1", "h1"}) {
                for (int size = 1; size < act.length(); size++) {
                    fault(act.substring(0, size), size);
                    fault("h1;" + act.substring(0, size), 3 + size);
                }
                fault(act + ";", act.length() + 1);
            }
        });
        Sentences.holds(P20, "nothing is done then", () -> {
            BalloonsMoor x = moorable();
            x.rests(4);
            x.hours(1);
            Desk.due("row of the hours", x.row(0), 0);
            x.rests(4);
            Desk.due("a fault at the end", Desk.day(x, "l0;h1;s0-"), -10);
            Desk.due("in the yard", x.count(3), 15);
            Desk.due("now", x.count(2), 1);
            Desk.due("acts", x.count(9), 1);
            Desk.dueRow("the row stays", x, 4, 4);
        });
    }

    private static void dayLimit() {
        Sentences.holds(P20, "60, if it has more and the first 60 could go on or end)", () -> {
            BalloonsMoor x = moorable();
            Desk.due("57 signs of 19 acts", ACTS_19.length(), 57);
            Desk.due("60 signs", Desk.day(x, ACTS_19 + "h10"), 20);
            Desk.due("now", x.count(2), 10);
            String[] last = {"h10", "h1;", "m00", "s0+", "l0;", "c0;"};
            for (String end : last) {
                fault(ACTS_19 + end + ";", 60);
                fault(ACTS_19 + end + "1", 60);
                fault(ACTS_19 + end + "x;h1", 60);
            }
            fault(ACTS_19 + "h1;", 60);
            fault(ACTS_19 + "s0+", 60);
            fault(ACTS_19 + "h1x1", 59);
            fault(ACTS_19 + "l001", 59);
            fault(ACTS_19 + "x10;", 57);
            fault("x" + ACTS_19 + "h10", 0);
        });
    }

    private static void undoLatest() {
        Sentences.holds(P21, "The latest launch(), moor(), cast(), sacks(), cargo(), fill(), hours() or day()"
            + " (of 15 that are kept, the latest ones", () -> {
            for (int acts = 14; acts <= 48; acts++) {
                BalloonsMoor x = Desk.harbour("", "9,0010");
                for (int i = 0; i < acts; i++) {
                    x.hours(1);
                    Desk.due("kept", x.count(9), Math.min(i + 1, 15));
                }
                int kept = Math.min(acts, 15);
                for (int i = kept - 1; i >= 0; i--) {
                    Desk.due("undo", x.undo(), i);
                    Desk.due("now", x.count(2), acts - kept + i);
                }
                Desk.due("no more", x.undo(), -1);
                Desk.due("now", x.count(2), acts - kept);
            }
            BalloonsMoor y = moorable();
            String[] ahead = new String[8];
            for (int i = 0; i < 8; i++) {
                ahead[i] = look(y);
                act(y, i);
                Desk.due("an act " + i, y.count(9), i + 1);
            }
            for (int i = 7; i >= 0; i--) {
                Desk.due("undo " + i, y.undo(), i);
                Desk.due("as ahead of " + i, look(y).equals(ahead[i]), true);
            }
        });
    }

    private static void act(BalloonsMoor x, int kind) {
        switch (kind) {
            case 0: x.sacks(0, 2); break;
            case 1: x.cargo(0, 1); break;
            case 2: x.fill(0, 69); break;
            case 3: x.launch(0); break;
            case 4: x.moor(0, 0); break;
            case 5: x.hours(2); break;
            case 6: x.cast(0); break;
            default: Desk.day(x, "s0-1;h1"); break;
        }
    }

    private static String look(BalloonsMoor x) {
        StringBuilder told = new StringBuilder();
        told.append(x.count(2)).append(' ').append(x.count(7)).append(' ').append(x.count(8)).append(' ');
        for (int b = 0; b < x.count(1); b++) {
            for (int what = 0; what <= 9; what++) {
                told.append(x.balloon(b, what)).append(' ');
            }
        }
        return told.toString();
    }

    private static void undoSuchAsWereDone() {
        Sentences.holds(P21, "such as were done", () -> {
            BalloonsMoor x = moorable();
            x.hours(1);
            x.hours(49);
            x.launch(2);
            x.launch(9);
            x.moor(0, 0);
            x.cast(0);
            x.sacks(0, 0);
            x.sacks(0, 10);
            x.cargo(0, 10);
            x.fill(0, 100);
            x.day();
            Desk.day(x, "c0;h1");
            Desk.day(x, "h1;x");
            Desk.due("the hour alone", x.count(9), 1);
            x.rain(3);
            x.sheet(2, 1, 50, 0);
            x.mark(0, 0, 1);
            x.keep(0);
            x.season(1, 9);
            x.drifts(0, 9);
            Desk.due("these are no acts", x.count(9), 1);
            x.hours(0);
            Desk.due("no hour is one that was done", x.count(9), 2);
            x.cargo(0, x.balloon(0, 2));
            Desk.due("and so is what leaves all as it is", x.count(9), 3);
            x.undo();
            x.undo();
            Desk.due("the hour", x.undo(), 0);
            Desk.due("now", x.count(2), 0);
            for (int i = 0; i < 20; i++) {
                x.hours(1);
            }
            x.hours(49);
            x.cast(0);
            Desk.day(x, "c0");
            for (int i = 14; i >= 0; i--) {
                Desk.due("what is refused takes no place among the 15", x.undo(), i);
                Desk.due("now", x.count(2), 5 + i);
            }
        });
        Sentences.holds(P21, "Refused: none.", () -> {
            BalloonsMoor x = moorable();
            Desk.due("none", x.undo(), -1);
            x.hours(5);
            Desk.due("one", x.undo(), 0);
            Desk.due("none", x.undo(), -1);
            Desk.due("now", x.count(2), 0);
            x.hours(5);
            Desk.due("what was undone is not kept", x.count(9), 1);
        });
    }

    private static void undoDays() {
        Sentences.holds(P21, "day() of which one ACT was done, as one) is undone", () -> {
            BalloonsMoor x = moorable();
            Desk.day(x, "l9;h1");
            Desk.due("none was done", x.count(9), 0);
            Desk.day(x, "h1;l9;h1");
            Desk.due("one was done", x.count(9), 1);
            Desk.day(x, "l0;m00;h2;c0;h3;s0-1");
            Desk.due("five were done", x.count(9), 2);
            Desk.due("now", x.count(2), 6);
            Desk.due("as one", x.undo(), 1);
            Desk.due("now", x.count(2), 1);
            Desk.due("in the yard", x.balloon(0, 7), 0);
            Desk.due("as one", x.undo(), 0);
            Desk.due("now", x.count(2), 0);
        });
    }

    private static void undoWhat() {
        Sentences.holds(P21, "(of BALLOONS GAS, SACKS, CARGO, where they are, NOW are as ahead of it):"
            + " how many are left that can be.", () -> {
            BalloonsMoor x = Desk.harbour("10;90", "25,0091;95,1130;15,0090");
            Desk.blown(x, "-/21/31/-/-/-/-/-/-/-");
            x.launch(0);
            x.hours(3);
            int cell = x.balloon(0, 9);
            Desk.due("drifted", cell, Desk.cell(3, 3));
            x.launch(1);
            x.moor(1, 1);
            x.hours(2);
            x.rain(7);
            x.mark(0, 0, 1);
            x.keep(1);
            Desk.ruled(x, "g");
            Desk.blown(x, "-/-/-/-/-/-/-/-/-/-");
            x.sheet(2, 3, 1, 1);
            Desk.due("four left", x.undo(), 4);
            Desk.due("now", x.count(2), 3);
            Desk.due("gas", x.balloon(0, 0) * 10000 + x.balloon(1, 0) * 100 + x.balloon(2, 0), 229515);
            Desk.due("free where it was", x.balloon(0, 9), cell);
            Desk.due("moored where it was", x.balloon(1, 8), 1);
            Desk.due("three left", x.undo(), 3);
            Desk.due("free", x.balloon(1, 9), 180);
            Desk.due("two left", x.undo(), 2);
            Desk.due("in the yard", x.balloon(1, 7), 0);
            Desk.due("rain is as it is", x.count(7), 7);
            Desk.due("marks are as they are", x.count(8), 1);
            Desk.due("the rule is as it is", x.lift(0), 22);
            Desk.due("the winds are as they are", x.ring(0, 3), -1);
            Desk.due("what is kept is kept", x.again(1), true);
            BalloonsMoor y = moorable();
            y.launch(0);
            y.moor(0, 1);
            y.cast(0);
            y.moor(0, 0);
            y.cast(0);
            y.undo();
            Desk.due("at the second ring", y.balloon(0, 8), 0);
            y.undo();
            y.undo();
            Desk.due("at the first ring", y.balloon(0, 8), 1);
        });
    }

    private static void undoForgets() {
        Sentences.holds(P21, "(tower(), balloons() and again() forget them, if they are not refused;"
            + " an empty balloons() does not.)", () -> {
            BalloonsMoor x = moorable();
            x.hours(1);
            Desk.due("tower refused", Desk.tower(x, "5"), -2);
            Desk.due("balloons refused", Desk.balloons(x, "5,0010;5,0010;5,0010"), -15);
            Desk.due("balloons refused", Desk.balloons(x, "5"), -2);
            Desk.due("again refused", x.again(0), false);
            Desk.due("again refused", x.again(3), false);
            Desk.due("an empty one", Desk.balloons(x, ""), 0);
            x.keep(0);
            Desk.due("they are left", x.count(9), 1);
            x.again(0);
            Desk.due("again", x.count(9), 0);
            Desk.due("again", x.undo(), -1);
            x.hours(1);
            Desk.balloons(x, "5,0010");
            Desk.due("balloons", x.count(9), 0);
            Desk.due("balloons", x.undo(), -1);
            x.hours(1);
            Desk.tower(x, "50");
            Desk.due("tower", x.count(9), 0);
            Desk.due("tower", x.undo(), -1);
            x.hours(1);
            Desk.due("an empty tower", Desk.tower(x, ""), 0);
            Desk.due("an empty tower", x.undo(), -1);
        });
    }
}
