/** Boundary sentences of the document's terms: RINGS, BALLOONS, THE WINDS, THE RULE. */
final class BoundsOfTerms {
    private static final String T = "Terms 1";

    private BoundsOfTerms() {
    }

    static void run() {
        face();
        rings();
        balloons();
        balloonsToldAs();
        places();
        winds();
        windsAtWork();
        ruleOfNone();
        expressions();
        things();
        facts();
        values();
    }

    private static void face() {
        Sentences.holds("The face", "public static final int NONE = -1;", () -> {
            Desk.due("NONE", BalloonsMoor.NONE, -1);
            Desk.due("answered", new BalloonsMoor().undo(), -1);
        });
        Sentences.holds("What it is", "An object is used for at most 512 calls after it has been made", () -> {
            BalloonsMoor x = new BalloonsMoor();
            for (int call = 1; call <= 512; call++) {
                Desk.due("call " + call, x.hours(48), 48 * call);
            }
            BalloonsMoor y = new BalloonsMoor();
            for (int call = 1; call <= 510; call++) {
                y.season(call, 60);
                y.rests(call % 10);
            }
            y.sign('9' << 24);
            Desk.due("still reads", y.balloons(), -2);
        });
        Sentences.holds("The face", "ring(int ring, int what) throws NoSuchElementException", () ->
            Desk.dueNone("ring", () -> new BalloonsMoor().ring(0, 0)));
        Sentences.holds("The face", "balloon(int balloon, int what) throws NoSuchElementException", () ->
            Desk.dueNone("balloon", () -> new BalloonsMoor().balloon(0, 0)));
        Sentences.holds("The face", "lift(int balloon) throws NoSuchElementException", () ->
            Desk.dueNone("lift", () -> new BalloonsMoor().lift(0)));
        Sentences.holds("The face", "row(int i) throws NoSuchElementException", () ->
            Desk.dueNone("row", () -> new BalloonsMoor().row(0)));
    }

    private static void rings() {
        String eight = "00;11;22;33;44;55;66;77";
        Sentences.holds(T, "RINGS 0 .. (at most 8)", () -> {
            BalloonsMoor x = new BalloonsMoor();
            Desk.due("eight", Desk.tower(x, eight), 8);
            Desk.due("ring 7", x.ring(7, 0), 7);
            Desk.dueNone("ring 8", () -> x.ring(8, 0));
            Desk.due("nine", Desk.tower(x, eight + ";00"), -24);
        });
        Sentences.holds(T, "HEIGHT 0 .. 9, SIDE 0 .. 7.", () -> {
            BalloonsMoor x = new BalloonsMoor();
            Desk.due("the least and the most", Desk.tower(x, "00;97"), 2);
            Desk.due("least height", x.ring(0, 0), 0);
            Desk.due("least side", x.ring(0, 1), 0);
            Desk.due("most height", x.ring(1, 0), 9);
            Desk.due("most side", x.ring(1, 1), 7);
            Desk.due("above 9", Desk.tower(x, ":0"), -1);
            Desk.due("below 0", Desk.tower(x, "/0"), -1);
            Desk.due("side 8", Desk.tower(x, "08"), -2);
            Desk.due("side below 0", Desk.tower(x, "0/"), -2);
        });
        Sentences.holds(T, "THE TOWER is told by a text of at most 23 signs: LINES with ; between,"
            + " each a RING: two digits (HEIGHT, SIDE 0 .. 7).", () -> {
            BalloonsMoor x = new BalloonsMoor();
            Desk.due("23 signs", Desk.tower(x, eight), 8);
            Desk.due("24 signs", Desk.tower(x, eight + ";"), -24);
            Desk.due("one digit", Desk.tower(x, "1;11"), -2);
            Desk.due("three digits", Desk.tower(x, "111"), -3);
            Desk.due("nothing between", Desk.tower(x, "11;;11"), -4);
            Desk.due("nothing behind", Desk.tower(x, "11;"), -4);
            Desk.due("nothing ahead", Desk.tower(x, ";11"), -1);
            Desk.due("another sign between", Desk.tower(x, "11:11"), -3);
        });
    }

    private static void balloons() {
        String six = "10,0010;11,0011;12,0012;13,0013;14,0014;15,0015";
        Sentences.holds(T, "BALLOONS 0 .. (at most 6)", () -> {
            BalloonsMoor x = new BalloonsMoor();
            Desk.due("six", Desk.balloons(x, six), 6);
            Desk.due("balloon 5", x.balloon(5, 0), 15);
            Desk.dueNone("balloon 6", () -> x.balloon(6, 0));
            Desk.due("a seventh", Desk.balloons(x, "1,0010"), -1);
            Desk.due("six still", x.count(1), 6);
        });
        Sentences.holds(T, "GAS 0 .. 99, SACKS 0 .. 9, CARGO 0 .. 9, ROPE 1 .. 9, LEAK 0 .. 9", () -> {
            BalloonsMoor x = Desk.harbour("", "0,0010;99,9999");
            int[] least = {0, 0, 0, 1, 0};
            int[] most = {99, 9, 9, 9, 9};
            for (int what = 0; what < 5; what++) {
                Desk.due("least " + what, x.balloon(0, what), least[what]);
                Desk.due("most " + what, x.balloon(1, what), most[what]);
            }
            Desk.due("gas 100", Desk.balloons(x, "100,0010"), -3);
            Desk.due("rope 0", Desk.balloons(x, "0,0000"), -5);
        });
        Sentences.holds(T, "in THE YARD (at first)", () -> {
            BalloonsMoor x = Desk.harbour("00", "9,0010");
            Desk.due("the first", x.balloon(0, 7), 0);
            x.launch(0);
            x.moor(0, 0);
            Desk.balloons(x, "9,0010");
            Desk.due("a later one", x.balloon(1, 7), 0);
            Desk.due("the first is still moored", x.balloon(0, 7), 2);
            Desk.tower(x, "00");
            Desk.balloons(x, "9,0010");
            Desk.due("behind another tower", x.balloon(0, 7), 0);
        });
        Sentences.holds(T, "WEIGHT: 5 SACKS and 4 CARGO.", () -> {
            BalloonsMoor x = Desk.harbour("", "0,0010;99,9999;0,1010;0,0110");
            int[] weight = {0, 81, 5, 4};
            for (int b = 0; b < 4; b++) {
                Desk.due("weight " + b, x.balloon(b, 5), weight[b]);
            }
        });
    }

    private static void balloonsToldAs() {
        String six = "10,0010;11,0011;12,0012;13,0013;14,0014;15,0015";
        Sentences.holds(T, "They are told by a text of at most 47 signs: LINES with ; between, each one more:"
            + " GAS (1 or 2 digits), a comma, four digits (SACKS, CARGO, ROPE 1 .. 9, LEAK).", () -> {
            BalloonsMoor x = new BalloonsMoor();
            Desk.due("48 signs", Desk.balloons(x, six + ";"), -48);
            Desk.due("one digit", Desk.balloons(x, "1,0010"), 1);
            Desk.due("two digits", Desk.balloons(x, "01,0010"), 1);
            Desk.due("no digit", Desk.balloons(x, ",0010"), -1);
            Desk.due("three digits", Desk.balloons(x, "001,0010"), -3);
            Desk.due("no comma", Desk.balloons(x, "1;0010"), -2);
            Desk.due("three behind", Desk.balloons(x, "1,001"), -6);
            Desk.due("three behind, ;", Desk.balloons(x, "1,001;1,0010"), -6);
            Desk.due("five behind", Desk.balloons(x, "1,00100"), -7);
            Desk.due("two came", x.count(1), 2);
            Desk.due("47 signs", Desk.balloons(new BalloonsMoor(), six), 6);
        });
    }

    private static void places() {
        Sentences.holds(T, "FREE over a cell (x, y -9 .. 9 each; THE TOWER is at 0, 0)", () -> {
            for (int way = 0; way < 8; way++) {
                BalloonsMoor x = Desk.harbour("", "5,0010");
                Desk.blown(x, way + "3/-/-/-/-/-/-/-/-/-");
                x.launch(0);
                Desk.due("the tower", x.balloon(0, 9), Desk.cell(0, 0));
                x.hours(3);
                Desk.due("9 off", x.balloon(0, 7), 1);
                Desk.blown(x, way + "1/-/-/-/-/-/-/-/-/-");
                x.hours(1);
                Desk.due("10 off", x.balloon(0, 7), 3);
                Desk.due("over no cell", x.balloon(0, 9), -1);
            }
        });
        Sentences.holds(T, "MOORED at a RING (one at each at most)", () -> {
            BalloonsMoor x = Desk.harbour("00;01", "5,0010;5,0010");
            x.launch(0);
            x.launch(1);
            Desk.due("the first", x.moor(0, 0), 0);
            Desk.due("a second", x.moor(1, 0), -5);
            Desk.due("elsewhere", x.moor(1, 1), 0);
        });
    }

    private static void winds() {
        String ten = "01/12/23/31/42/53/61/72/03/11";
        Sentences.holds(T, "THE WINDS are told by a text of at most 29 signs: for HEIGHTS 0 .. 9, with / between,"
            + " - (none) or two digits", () -> {
            BalloonsMoor x = Desk.harbour("00;90", "");
            Desk.due("29 signs", Desk.winds(x, ten), 10);
            Desk.due("height 0", x.ring(0, 3) * 10 + x.ring(0, 4), 1);
            Desk.due("height 9", x.ring(1, 3) * 10 + x.ring(1, 4), 11);
            Desk.due("30 signs", Desk.winds(x, ten + "/"), -30);
            Desk.due("nine heights", Desk.winds(x, "-/-/-/-/-/-/-/-/-"), -18);
            Desk.due("eleven heights", Desk.winds(x, "-/-/-/-/-/-/-/-/-/-/-"), -20);
            Desk.due("one digit", Desk.winds(x, "0/-"), -2);
            Desk.due("three digits", Desk.winds(x, "011/-"), -3);
            Desk.due("nothing between", Desk.winds(x, "--"), -2);
            Desk.due("nothing told", Desk.winds(x, "/-"), -1);
            Desk.due("none", Desk.winds(x, "-/-/-/-/-/-/-/-/-/-"), 0);
        });
        Sentences.holds(T, "At first none.", () -> {
            BalloonsMoor x = Desk.harbour("00;10;20;30;40;50;60;70", "5,0010;95,0010");
            for (int r = 0; r < 8; r++) {
                Desk.due("whither", x.ring(r, 3), -1);
                Desk.due("strong", x.ring(r, 4), 0);
            }
            x.launch(0);
            x.launch(1);
            x.hours(48);
            Desk.due("still over the tower", x.balloon(0, 9) * 1000 + x.balloon(1, 9), 180180);
        });
    }

    private static void windsAtWork() {
        int[] east = {0, 1, 1, 1, 0, -1, -1, -1};
        int[] south = {-1, -1, 0, 1, 1, 1, 0, -1};
        Sentences.holds(T, "whither (0 .. 7: north y less, then by eighths to the east: 1 is x more, y less,"
            + " 2 x more, .., 7 x less, y less)", () -> {
            for (int way = 0; way < 8; way++) {
                BalloonsMoor x = Desk.harbour("90", "95,0010");
                Desk.blown(x, "-/-/-/-/-/-/-/-/-/" + way + "1");
                x.launch(0);
                x.hours(1);
                Desk.due("way " + way, x.balloon(0, 9), Desk.cell(east[way], south[way]));
                Desk.due("told", x.ring(0, 3), way);
            }
            Desk.due("8", Desk.winds(new BalloonsMoor(), "81"), -1);
            Desk.due("below 0", Desk.winds(new BalloonsMoor(), "/1"), -1);
        });
        Sentences.holds(T, "how strong (1 .. 3 cells an HOUR; by eighths x and y each so many)", () -> {
            for (int strong = 1; strong <= 3; strong++) {
                for (int way = 0; way < 8; way++) {
                    BalloonsMoor x = Desk.harbour("", "5,0010");
                    Desk.blown(x, "" + way + strong + "/-/-/-/-/-/-/-/-/-");
                    x.launch(0);
                    x.hours(2);
                    Desk.due(way + " by " + strong, x.balloon(0, 9),
                        Desk.cell(2 * strong * east[way], 2 * strong * south[way]));
                }
            }
            Desk.due("0", Desk.winds(new BalloonsMoor(), "00"), -2);
            Desk.due("4", Desk.winds(new BalloonsMoor(), "04"), -2);
        });
    }

    /** The value that a rule gives BALLOON 1 of two, GAS 50, SACKS 3, CARGO 2, ROPE 5, LEAK 4. */
    private static void value(String rule, int want) {
        BalloonsMoor x = Desk.harbour("", "1,0010;50,3254");
        Desk.due("rule " + rule, Desk.rule(x, rule), 0);
        Desk.due(rule, x.lift(1), want);
    }

    private static void fault(String rule, int p) {
        Desk.due("rule " + rule, Desk.rule(new BalloonsMoor(), rule), -1 - p);
    }

    private static void ruleOfNone() {
        Sentences.holds(T, "THE RULE is a text of at most 40 signs (at first none: g-s*5-c*4-r).", () -> {
            BalloonsMoor x = Desk.harbour("", "50,3254");
            x.rain(7);
            Desk.due("at first", x.lift(0), 50 - 15 - 8 - 7);
            Desk.ruled(x, "g-s*5-c*4-r");
            Desk.due("told", x.lift(0), 20);
            String forty = "1+1+1+1+1+1+1+1+1+1+1+1+1+1+1+1+1+1+1+10";
            Desk.due("40 signs", Desk.rule(x, forty), 0);
            Desk.due("40 signs", x.lift(0), 29);
            Desk.due("41 signs", Desk.rule(x, forty + "0"), -41);
            Desk.due("41 signs", x.lift(0), 29);
            Desk.ruled(x, "");
            Desk.due("none again", x.lift(0), 20);
        });
    }

    private static void expressions() {
        Sentences.holds(T, "EXPRESSION: < > = bind least (two; 1 or 0; not one behind the other)", () -> {
            value("1<2", 1);
            value("2<2", 0);
            value("3<2", 0);
            value("3>2", 1);
            value("2>2", 0);
            value("1>2", 0);
            value("2=2", 1);
            value("2=3", 0);
            value("1+1<3-2", 0);
            value("2*2=1+3", 1);
            value("-1<0", 1);
            value("(1<2)+1=2", 1);
            value("(3>2)>(2>3)", 1);
            for (String one : new String[] {"<", ">", "="}) {
                for (String other : new String[] {"<", ">", "="}) {
                    fault("1" + one + "2" + other + "3", 3);
                    fault("(1" + one + "2" + other + "3)", 4);
                    fault("1" + one + other + "3", 2);
                }
            }
        });
        Sentences.holds(T, "then + - (from the left), then * / (from the left; by 0: 0; cut to 0)", () -> {
            value("10-3-2", 5);
            value("10-3+2", 9);
            value("2+3*4", 14);
            value("20-6/2", 17);
            value("100/7/2", 7);
            value("100/7*2", 28);
            value("2*7/4", 3);
            value("5/0", 0);
            value("-5/0", 0);
            value("0/0", 0);
            value("7/(s-3)+1", 1);
            value("7/2", 3);
            value("-7/2", -3);
            value("7/-2", -3);
            value("-7/-2", 3);
            value("1/2", 0);
            value("-1/2", 0);
        });
        Sentences.holds(T, "then - ahead of a thing (any many)", () -> {
            value("-5", -5);
            value("--5", 5);
            value("---5", -5);
            value("3--5", 8);
            value("3---5", -2);
            value("2*-3", -6);
            value("-(1+2)", -3);
            value("-g+1", -49);
            value("-2<-1", 1);
            value("---------------------------------------5", -5);
        });
    }

    private static void things() {
        Sentences.holds(T, "a NUMBER of 1 to 3 digits", () -> {
            value("0", 0);
            value("7", 7);
            value("99", 99);
            value("999", 999);
            value("000", 0);
            value("012", 12);
            fault("1000", 3);
            fault("0000", 3);
            fault("1+9999", 5);
        });
        Sentences.holds(T, "an EXPRESSION in ( ) (at most 4 in one another)", () -> {
            value("((((7))))", 7);
            value("((((1<2))))", 1);
            value("((((1))))+((((2))))", 3);
            value("(1+(2+(3+(4))))", 10);
            fault("(((((7)))))", 4);
            fault("1+((((1+(", 8);
            fault("((((7))))+(((((", 14);
            fault("()", 1);
        });
    }

    private static void facts() {
        Sentences.holds(T, "and, of a BALLOON: g GAS, s SACKS, c CARGO, l LEAK, o ROPE", () -> {
            value("g", 50);
            value("s", 3);
            value("c", 2);
            value("l", 4);
            value("o", 5);
        });
        Sentences.holds(T, "r RAIN (0 .. 9, at first 0)", () -> {
            BalloonsMoor x = Desk.harbour("", "1,0010");
            Desk.ruled(x, "r");
            Desk.due("at first", x.lift(0), 0);
            Desk.due("at first", x.count(7), 0);
            x.rain(9);
            Desk.due("the most", x.lift(0), 9);
            Desk.due("10", x.rain(10), -1);
            Desk.due("the most still", x.lift(0), 9);
            x.rain(0);
            Desk.due("the least", x.lift(0), 0);
        });
        Sentences.holds(T, "h NOW by 24 (rest), b its number", () -> {
            BalloonsMoor x = Desk.harbour("", "1,0010;1,0010;1,0010;1,0010;1,0010;1,0010");
            Desk.ruled(x, "h");
            for (int now = 0; now <= 50; now++) {
                Desk.due("now " + now, x.lift(0), now % 24);
                x.hours(1);
            }
            Desk.ruled(x, "b");
            for (int b = 0; b < 6; b++) {
                Desk.due("balloon " + b, x.lift(b), b);
            }
        });
    }

    private static void high(String rule, int want) {
        BalloonsMoor x = Desk.harbour("", "1,0010");
        Desk.ruled(x, rule);
        Desk.due("high by " + rule, x.balloon(0, 6), want);
    }

    private static void values() {
        Sentences.holds(T, "As ints: LIFT.", () -> {
            value("128*256*256*256", Integer.MIN_VALUE);
            value("128*256*256*256-1", Integer.MAX_VALUE);
            value("127*256*256*256*2", -33554432);
            value("999*999*999*999", 999 * 999 * 999 * 999);
            value("-(128*256*256*256)", Integer.MIN_VALUE);
            value("128*256*256*256/-1", Integer.MIN_VALUE);
            value("128*256*256*256+128*256*256*256", 0);
            value("128*256*256*256<0", 1);
        });
        Sentences.holds(T, "HIGH: LIFT by 10 (cut), put to 0 .. 9.", () -> {
            high("0", 0);
            high("9", 0);
            high("10", 1);
            high("19", 1);
            high("89", 8);
            high("90", 9);
            high("99", 9);
            high("100", 9);
            high("999*999", 9);
            high("-1", 0);
            high("-10", 0);
            high("-999", 0);
            high("128*256*256*256", 0);
            high("128*256*256*256-1", 9);
        });
    }
}
