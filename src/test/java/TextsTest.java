/** Promises 1 to 7: a new object, THE TEXT, and what is told by it. */
public final class TextsTest {
    public static void main(String[] args) {
        newObject();
        textSigns();
        towers();
        towerForgets();
        flocks();
        flocksWithoutRoom();
        winds();
        rules();
        ruleFaults();
        ruleLimits();
        readersEmptyTheText();
        Desk.close("TextsTest");
    }

    private static void newObject() {
        BalloonsMoor x = new BalloonsMoor();
        for (int what = 0; what <= 11; what++) {
            Desk.due("new count " + what, x.count(what), 0);
        }
    }

    private static void textSigns() {
        BalloonsMoor x = new BalloonsMoor();
        Desk.due("end 1 of none", x.end(1), false);
        Desk.due("end 0 of none", x.end(0), true);
        for (int i = 1; i <= 20; i++) {
            Desk.due("sign", x.sign(0x41424344), 4 * i);
        }
        Desk.due("sign of 84", x.sign(1), -1);
        Desk.due("80 stay", x.count(11), 80);
        Desk.due("end 81", x.end(81), false);
        Desk.due("end -1", x.end(-1), false);
        Desk.due("end least", x.end(Integer.MIN_VALUE), false);
        Desk.due("80 stay", x.count(11), 80);
        Desk.due("end 77", x.end(77), true);
        Desk.due("sign of 81", x.sign(1), -1);
        Desk.due("end 76", x.end(76), true);
        Desk.due("sign of 80", x.sign(-1), 80);
        Desk.due("end 0", x.end(0), true);
        Desk.due("none", x.count(11), 0);
        Desk.due("highest byte first", x.sign('5' << 24 | '3' << 16 | ';' << 8 | '7'), 4);
        Desk.due("sign", x.sign('6' << 24), 8);
        Desk.due("end 5", x.end(5), true);
        Desk.due("two rings", x.tower(), 2);
        Desk.due("height 0", x.ring(0, 0), 5);
        Desk.due("side 1", x.ring(1, 1), 6);
        x.sign(0xB1B03B80);
        x.end(2);
        Desk.due("high signs are no digits", x.tower(), -1);
    }

    private static void towers() {
        BalloonsMoor x = new BalloonsMoor();
        Desk.due("no rings", Desk.tower(x, ""), 0);
        Desk.due("one", Desk.tower(x, "97"), 1);
        Desk.due("height", x.ring(0, 0), 9);
        Desk.due("side", x.ring(0, 1), 7);
        Desk.due("side 8", Desk.tower(x, "98"), -2);
        Desk.due("half", Desk.tower(x, "9"), -2);
        Desk.due("behind ;", Desk.tower(x, "97;"), -4);
        Desk.due(";;", Desk.tower(x, "97;;"), -4);
        Desk.due("no ;", Desk.tower(x, "9711"), -3);
        Desk.due("first", Desk.tower(x, ";"), -1);
        Desk.due("eight", Desk.tower(x, "00;11;22;33;44;55;66;77"), 8);
        Desk.due("twenty-four", Desk.tower(x, "00;11;22;33;44;55;66;77;"), -24);
        Desk.due("nine", Desk.tower(x, "00;11;22;33;44;55;66;77;00"), -24);
        Desk.due("fault ahead of 23", Desk.tower(x, "00;11;22;33;44;55;66;78;00"), -24 + 1);
        Desk.due("refused ones change nothing", x.count(0), 8);
        Desk.due("and not a ring", x.ring(7, 0), 7);
        Desk.due("anew", Desk.tower(x, "12;12"), 2);
        Desk.due("like ones", x.ring(1, 1), 2);
        Desk.due("empty", Desk.tower(x, ""), 0);
        Desk.due("none left", x.count(0), 0);
    }

    private static void towerForgets() {
        BalloonsMoor x = Desk.harbour("30;50", "50,1234");
        Desk.winds(x, "21/-/-/-/-/-/-/-/-/-");
        Desk.rule(x, "g");
        x.rain(4);
        x.mark(0, 0, 1);
        x.keep(0);
        x.hours(3);
        Desk.due("refused", Desk.tower(x, "3"), -2);
        Desk.due("now stays", x.count(2), 3);
        Desk.due("balloons stay", x.count(1), 1);
        Desk.due("marks stay", x.count(8), 1);
        Desk.due("acts stay", x.count(9), 1);
        Desk.due("kept", x.again(0), true);
        x.hours(1);
        Desk.due("anew", Desk.tower(x, "30"), 1);
        Desk.due("now", x.count(2), 0);
        Desk.due("balloons", x.count(1), 0);
        Desk.due("marks", x.count(8), 0);
        Desk.due("acts", x.count(9), 0);
        Desk.due("undo", x.undo(), -1);
        Desk.due("kept", x.again(0), false);
        Desk.due("rain stays", x.count(7), 4);
        Desk.due("the row stays", x.count(10), 2);
        Desk.balloons(x, "8,9991");
        Desk.due("the rule stays", x.lift(0), 8);
        Desk.tower(x, "00");
        Desk.due("winds stay", x.ring(0, 3), 2);
    }

    private static void flocks() {
        BalloonsMoor x = new BalloonsMoor();
        Desk.due("two", Desk.balloons(x, "7,0010;99,9999"), 2);
        Desk.due("gas", x.balloon(0, 0), 7);
        Desk.due("rope", x.balloon(0, 3), 1);
        for (int what = 1; what <= 4; what++) {
            Desk.due("nines", x.balloon(1, what), 9);
        }
        Desk.due("gas 2", x.balloon(1, 0), 99);
        Desk.due("in the yard", x.balloon(1, 7), 0);
        Desk.due("rope 0", Desk.balloons(x, "7,0000"), -5);
        Desk.due("three digits", Desk.balloons(x, "700,0010"), -3);
        Desk.due("no gas", Desk.balloons(x, ",0010"), -1);
        Desk.due("no comma", Desk.balloons(x, "7;"), -2);
        Desk.due("short", Desk.balloons(x, "7,001"), -6);
        Desk.due("long", Desk.balloons(x, "7,00100"), -7);
        Desk.due("behind ;", Desk.balloons(x, "7,0010;"), -8);
        Desk.due("none of it comes", Desk.balloons(x, "7,0010;x"), -8);
        Desk.due("no sacks", Desk.balloons(x, "7,;7,0010"), -3);
        Desk.due("no cargo", Desk.balloons(x, "7,0;7,0010"), -4);
        Desk.due("no rope", Desk.balloons(x, "7,00;7,0010"), -5);
        Desk.due("no leak", Desk.balloons(x, "7,001;7,0010"), -6);
        Desk.due("still two", x.count(1), 2);
        Desk.due("nothing", Desk.balloons(x, ""), 0);
        Desk.due("one more", Desk.balloons(x, "00,1230"), 1);
        Desk.due("three", x.count(1), 3);
        Desk.due("its sacks", x.balloon(2, 1), 1);
    }

    private static void flocksWithoutRoom() {
        BalloonsMoor x = new BalloonsMoor();
        String six = "10,0010;11,0011;12,0012;13,0013;14,0014;15,0015";
        Desk.due("six", Desk.balloons(x, six), 6);
        Desk.due("no room", Desk.balloons(x, "1,0010"), -1);
        Desk.due("nothing needs none", Desk.balloons(x, ""), 0);
        Desk.tower(x, "");
        Desk.due("48 signs", Desk.balloons(x, six + ";"), -48);
        Desk.due("more", Desk.balloons(x, six + ";1,0010"), -48);
        Desk.due("fault ahead", Desk.balloons(x, six.substring(0, 46) + "x;1,0010"), -47);
        String short6 = "1,0010;1,0010;1,0010;1,0010;1,0010;1,0010";
        Desk.due("seventh", Desk.balloons(x, short6 + ";1,0010"), -43);
        Desk.due("seventh, ended", Desk.balloons(x, short6 + ";"), -43);
        Desk.due("none came", x.count(1), 0);
        Desk.due("two", Desk.balloons(x, "1,0010;1,0010"), 2);
        Desk.due("five more", Desk.balloons(x, "1,0010;1,0010;1,0010;1,0010;1,0010"), -29);
        Desk.due("still two", x.count(1), 2);
        Desk.due("four more", Desk.balloons(x, "1,0010;1,0010;1,0010;1,0010"), 4);
    }

    private static void winds() {
        BalloonsMoor x = Desk.harbour("00;11;92", "");
        Desk.due("empty", Desk.winds(x, ""), -1);
        Desk.due("ten", Desk.winds(x, "01/12/23/31/42/53/61/72/03/11"), 10);
        Desk.due("whither 0", x.ring(0, 3), 0);
        Desk.due("strong 0", x.ring(0, 4), 1);
        Desk.due("whither 9", x.ring(2, 3), 1);
        Desk.due("strong 1", x.ring(1, 4), 2);
        Desk.due("more", Desk.winds(x, "01/12/23/31/42/53/61/72/03/11/"), -30);
        Desk.due("nine", Desk.winds(x, "01/12/23/31/42/53/61/72/03"), -27);
        Desk.due("strong 0", Desk.winds(x, "00"), -2);
        Desk.due("strong 4", Desk.winds(x, "04"), -2);
        Desk.due("whither 8", Desk.winds(x, "-/81"), -3);
        Desk.due("two of none", Desk.winds(x, "--"), -2);
        Desk.due("other between", Desk.winds(x, "-;-"), -2);
        Desk.due("refused ones change nothing", x.ring(0, 3), 0);
        Desk.due("two", Desk.winds(x, "-/73/-/-/-/-/-/-/-/53"), 2);
        Desk.due("gone", x.ring(0, 3), -1);
        Desk.due("gone", x.ring(0, 4), 0);
        Desk.due("there", x.ring(1, 3), 7);
        Desk.due("none", Desk.winds(x, "-/-/-/-/-/-/-/-/-/-"), 0);
    }

    private static void value(BalloonsMoor x, String rule, int want) {
        Desk.due("rule " + rule, Desk.rule(x, rule), 0);
        Desk.due(rule, x.lift(1), want);
    }

    private static void rules() {
        BalloonsMoor x = Desk.harbour("", "1,0010;50,3254");
        x.hours(30);
        x.rain(7);
        Desk.due("none", x.lift(1), 50 - 15 - 8 - 7);
        value(x, "g", 50);
        value(x, "s", 3);
        value(x, "c", 2);
        value(x, "o", 5);
        value(x, "l", 4);
        value(x, "r", 7);
        value(x, "h", 6);
        value(x, "b", 1);
        value(x, "007", 7);
        value(x, "1+2*3", 7);
        value(x, "(1+2)*3", 9);
        value(x, "10-3-2", 5);
        value(x, "100/7/2", 7);
        value(x, "7-20/6*2", 1);
        value(x, "-7/2", -3);
        value(x, "7/-2", -3);
        value(x, "g/(s-3)", 0);
        value(x, "--5", 5);
        value(x, "---5", -5);
        value(x, "3--5", 8);
        value(x, "3*-2+1", -5);
        value(x, "1<2", 1);
        value(x, "2<2", 0);
        value(x, "3>2", 1);
        value(x, "2>2", 0);
        value(x, "1+1=2", 1);
        value(x, "1=2", 0);
        value(x, "(1<2)<1", 0);
        value(x, "(1<2)=(2>1)", 1);
        value(x, "1<2+5", 1);
        value(x, "((((1))))", 1);
        value(x, "(1)+((2))", 3);
        value(x, "999*999*999", 999 * 999 * 999);
        value(x, "999*999*999*999", 999 * 999 * 999 * 999);
        value(x, "256*256*256*128/-1", Integer.MIN_VALUE);
        value(x, "-(256*256*256*128)", Integer.MIN_VALUE);
        value(x, "", 20);
    }

    private static void fault(BalloonsMoor x, String rule, int p) {
        Desk.due("rule " + rule, Desk.rule(x, rule), -1 - p);
    }

    private static void ruleFaults() {
        BalloonsMoor x = Desk.harbour("", "9,0010");
        Desk.rule(x, "g*2");
        fault(x, "z", 0);
        fault(x, "gg", 1);
        fault(x, "g+", 2);
        fault(x, "+g", 0);
        fault(x, "*g", 0);
        fault(x, "g*+1", 2);
        fault(x, "1<2<3", 3);
        fault(x, "1<2=3", 3);
        fault(x, "1<2+3>4", 5);
        fault(x, "(1<2<3)", 4);
        fault(x, "1<", 2);
        fault(x, "1234", 3);
        fault(x, "g1", 1);
        fault(x, "1g", 1);
        fault(x, "(g", 2);
        fault(x, "()", 1);
        fault(x, "(g))", 3);
        fault(x, "g)", 1);
        fault(x, "g(1)", 1);
        fault(x, "(((((1)))))", 4);
        fault(x, "-", 1);
        fault(x, "--)", 2);
        fault(x, "g ", 1);
        fault(x, "G", 0);
        Desk.due("refused ones change nothing", x.lift(0), 18);
    }

    private static void ruleLimits() {
        BalloonsMoor x = Desk.harbour("", "9,0010");
        String minus39 = "---------------------------------------";
        Desk.due("39", minus39.length(), 39);
        Desk.due("40 signs", Desk.rule(x, minus39 + "g"), 0);
        Desk.due("odd", x.lift(0), -9);
        fault(x, minus39 + "gg", 40);
        fault(x, minus39 + "g+", 40);
        fault(x, minus39 + "--g", 40);
        fault(x, minus39 + "-", 40);
        fault(x, minus39 + "*g", 39);
        fault(x, minus39 + "(g)", 40);
        String sums = "1+1+1+1+1+1+1+1+1+1+1+1+1+1+1+1+1+1+1+1";
        Desk.due("39 signs", Desk.rule(x, sums), 0);
        Desk.due("20", x.lift(0), 20);
        fault(x, sums + "+", 40);
        fault(x, sums + "+1", 40);
        Desk.due("40 signs", Desk.rule(x, sums + "0"), 0);
        Desk.due("29", x.lift(0), 29);
        fault(x, sums + "00", 40);
    }

    private static void readersEmptyTheText() {
        BalloonsMoor x = new BalloonsMoor();
        Desk.tower(x, "11");
        Desk.due("tower", x.count(11), 0);
        Desk.tower(x, "?");
        Desk.due("tower refused", x.count(11), 0);
        Desk.balloons(x, "1,0010");
        Desk.due("balloons", x.count(11), 0);
        Desk.balloons(x, "1,00");
        Desk.due("balloons refused", x.count(11), 0);
        Desk.winds(x, "-/-/-/-/-/-/-/-/-/-");
        Desk.due("winds", x.count(11), 0);
        Desk.winds(x, "--");
        Desk.due("winds refused", x.count(11), 0);
        Desk.rule(x, "1+1");
        Desk.due("rule", x.count(11), 0);
        Desk.rule(x, "1+");
        Desk.due("rule refused", x.count(11), 0);
        Desk.day(x, "h1");
        Desk.due("day", x.count(11), 0);
        Desk.day(x, "h");
        Desk.due("day refused", x.count(11), 0);
        Desk.tell(x, "abc");
        x.hours(1);
        x.launch(7);
        Desk.due("others leave it", x.count(11), 3);
    }
}
