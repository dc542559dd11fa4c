/** Boundary sentences of promises 1 to 7: a new object, THE TEXT, and what is told by it. */
final class BoundsOfTexts {
    private static final String EIGHT = "00;11;22;33;44;55;66;77";
    private static final String SIX = "10,0010;11,0011;12,0012;13,0013;14,0014;15,0015";
    private static final String SHORT_SIX = "1,0010;1,0010;1,0010;1,0010;1,0010;1,0010";
    private static final String TEN = "01/12/23/31/42/53/61/72/03/11";
    private static final String STILL = "-/-/-/-/-/-/-/-/-/-";
    private static final String MINUS_39 = "---------------------------------------";

    private BoundsOfTexts() {
    }

    static void run() {
        promise1();
        promise2();
        promise3();
        promise4();
        promise4Faults();
        promise5();
        promise5Faults();
        promise6();
        promise7();
        promise7Limit();
    }

    private static void promise1() {
        Sentences.holds("Promise 1", "No RINGS, no BALLOONS.", () -> {
            BalloonsMoor x = new BalloonsMoor();
            Desk.due("rings", x.count(0), 0);
            Desk.due("balloons", x.count(1), 0);
            Desk.dueNone("ring 0", () -> x.ring(0, 0));
            Desk.dueNone("balloon 0", () -> x.balloon(0, 0));
            for (int what = 0; what <= 11; what++) {
                Desk.due("count " + what, x.count(what), 0);
            }
        });
    }

    private static void promise2() {
        String p = "Promise 2";
        Sentences.holds(p, "Four signs come behind THE TEXT, of v the highest byte first: how many it has.", () -> {
            BalloonsMoor x = new BalloonsMoor();
            Desk.due("behind none", x.sign('5' << 24 | '3' << 16 | ';' << 8 | '7'), 4);
            Desk.due("behind four", x.sign('6' << 24 | ';' << 16 | '0' << 8 | '1'), 8);
            Desk.due("tower", x.tower(), 3);
            Desk.due("first", x.ring(0, 0), 5);
            Desk.due("second", x.ring(0, 1), 3);
            Desk.due("over the seam", x.ring(1, 0) * 10 + x.ring(1, 1), 76);
            Desk.due("last", x.ring(2, 1), 1);
            Desk.due("a highest byte with its bit of sign", x.sign('0' << 24 | 128 << 24 | '0' << 16), 4);
            Desk.due("is no digit", x.tower(), -1);
            Desk.due("all bits", x.sign(-1), 4);
            Desk.due("no bits", x.sign(0), 8);
        });
        Sentences.holds(p, "Refused: there would be more than 80.", () -> {
            BalloonsMoor x = new BalloonsMoor();
            for (int i = 1; i <= 20; i++) {
                Desk.due("up to 80", x.sign('0' << 24 | '0' << 16 | ';' << 8 | '0'), 4 * i);
            }
            Desk.due("84", x.sign(1), -1);
            Desk.due("80 stay", x.count(11), 80);
            for (int n = 79; n >= 77; n--) {
                x.end(n);
                Desk.due("4 behind " + n, x.sign(1), -1);
                Desk.due("stay", x.count(11), n);
            }
            x.end(76);
            Desk.due("4 behind 76", x.sign(1), 80);
            x.end(2);
            Desk.due("the first are as they were", x.tower(), 1);
        });
    }

    private static void promise3() {
        String p = "Promise 3";
        Sentences.holds(p, "THE TEXT has its first n signs alone: true", () -> {
            BalloonsMoor x = new BalloonsMoor();
            Desk.due("0 of none", x.end(0), true);
            x.sign('1' << 24 | '2' << 16 | ';' << 8 | '3');
            Desk.due("all", x.end(4), true);
            Desk.due("four", x.count(11), 4);
            Desk.due("two", x.end(2), true);
            Desk.due("two", x.count(11), 2);
            Desk.due("the first ones", x.tower() * 100 + x.ring(0, 0) * 10 + x.ring(0, 1), 112);
            x.sign(-1);
            Desk.due("0 of four", x.end(0), true);
            Desk.due("none", x.count(11), 0);
        });
        Sentences.holds(p, "false if it has not so many, or n is below 0", () -> {
            BalloonsMoor x = new BalloonsMoor();
            Desk.due("1 of none", x.end(1), false);
            x.sign(-1);
            Desk.due("5 of four", x.end(5), false);
            Desk.due("most", x.end(Integer.MAX_VALUE), false);
            Desk.due("-1", x.end(-1), false);
            Desk.due("least", x.end(Integer.MIN_VALUE), false);
            Desk.due("four stay", x.count(11), 4);
            x.end(3);
            Desk.due("what is cut off does not come again", x.end(4), false);
        });
    }

    private static void promise4() {
        String p = "Promise 4";
        Sentences.holds(p, "THE TEXT is THE TOWER anew (an empty one: no RINGS): how many RINGS", () -> {
            BalloonsMoor x = new BalloonsMoor();
            Desk.due("empty at first", x.tower(), 0);
            Desk.due("eight", Desk.tower(x, EIGHT), 8);
            Desk.due("one, anew", Desk.tower(x, "97"), 1);
            Desk.due("one", x.count(0), 1);
            Desk.dueNone("the second is gone", () -> x.ring(1, 0));
            Desk.due("empty", Desk.tower(x, ""), 0);
            Desk.due("none", x.count(0), 0);
            Desk.dueNone("the first is gone", () -> x.ring(0, 0));
        });
        Sentences.holds(p, "anew", () -> {
            for (String ahead : new String[] {"50;60", "30;60", "60;30"}) {
                BalloonsMoor x = Desk.harbour(ahead, "");
                Desk.tower(x, "50;51");
                Desk.balloons(x, "55,1010;55,0110;55,2010");
                x.launch(0);
                x.moor(0, 0);
                Desk.due("who is lighter may hang at the other side", x.yields(1), 2);
                Desk.due("who is heavier may", x.yields(2), 2);
                x.launch(1);
                x.moor(1, 1);
                Desk.due("none touch", x.touches(), 0);
                Desk.due("no breach", x.breaches(), 0);
                Desk.due("two at two", x.berths(3), 2);
            }
        });
        Sentences.holds(p, "there are no BALLOONS, NOW is 0, no marks, nothing can be undone, nothing is kept", () -> {
            for (String tower : new String[] {"", "11;22"}) {
                BalloonsMoor x = Desk.harbour("00;11", "5,0010");
                x.mark(1, 0, 1);
                x.hours(3);
                for (int i = 0; i < 3; i++) {
                    x.keep(i);
                }
                Desk.tower(x, tower);
                Desk.due("balloons", x.count(1), 0);
                Desk.due("now", x.count(2), 0);
                Desk.due("marks", x.count(8), 0);
                Desk.due("wiped", x.wipe(), 0);
                Desk.due("acts", x.count(9), 0);
                Desk.due("undo", x.undo(), -1);
                for (int i = 0; i < 3; i++) {
                    Desk.due("kept " + i, x.again(i), false);
                }
            }
        });
    }

    private static void towerFault(String text, int p) {
        Desk.due("tower " + text, Desk.tower(new BalloonsMoor(), text), -1 - p);
    }

    private static void promise4Faults() {
        String p = "Promise 4";
        Sentences.holds(p, "-1 - p: the sign at p can't stand there", () -> {
            String[] wrong = {"x", "/0", ":0", ";", " 11", "\0", "\u00ff"};
            for (String text : wrong) {
                towerFault(text, 0);
                towerFault("3" + text, 1);
                towerFault("31;" + text, 3);
                towerFault("31;3" + text, 4);
            }
            towerFault("38", 1);
            towerFault("39;11", 1);
            towerFault("310", 2);
            towerFault("31,11", 2);
            towerFault("31;11:", 5);
            BalloonsMoor x = Desk.harbour("45", "5,0010");
            Desk.due("refused", Desk.tower(x, "11;1x"), -5);
            Desk.due("nothing changes", x.count(0) * 100 + x.ring(0, 0) * 10 + x.ring(0, 1), 145);
            Desk.due("balloons stay", x.count(1), 1);
        });
        Sentences.holds(p, "(its end, if it ends too early", () -> {
            towerFault("3", 1);
            towerFault("31;", 3);
            towerFault("31;1", 4);
            towerFault(EIGHT.substring(0, 21), 21);
            towerFault(EIGHT.substring(0, 22), 22);
        });
        Sentences.holds(p, "the first sign of a ninth LINE; 23, if it has more and the first 23 could go on or end)", () -> {
            Desk.due("23 signs", Desk.tower(new BalloonsMoor(), EIGHT), 8);
            towerFault(EIGHT + ";", 23);
            towerFault(EIGHT + ";00", 23);
            towerFault(EIGHT + "0", 23);
            towerFault(EIGHT + "\0", 23);
            towerFault(EIGHT + ";" + EIGHT + ";" + EIGHT, 23);
            towerFault(EIGHT.substring(0, 22) + "8;00", 22);
            towerFault("00:" + EIGHT.substring(3) + ";00", 2);
        });
    }

    private static void promise5() {
        String p = "Promise 5";
        Sentences.holds(p, "THE TEXT tells of BALLOONS (an empty one: nothing): how many LINES.", () -> {
            BalloonsMoor x = Desk.harbour("00", "");
            Desk.due("nothing", Desk.balloons(x, ""), 0);
            Desk.due("nobody", x.count(1), 0);
            Desk.due("two lines", Desk.balloons(x, "7,0010;8,0010"), 2);
            x.hours(1);
            x.keep(1);
            Desk.due("nothing", Desk.balloons(x, ""), 0);
            Desk.due("two still", x.count(1), 2);
            Desk.due("acts stay", x.count(9), 1);
            Desk.due("what is kept stays", x.again(1), true);
            Desk.due("three lines", Desk.balloons(x, "1,0010;2,0010;3,0010"), 3);
            Desk.due("each one more", x.count(1), 5);
            Desk.due("the last", x.balloon(4, 0), 3);
            Desk.due("the first ones are as they were", x.balloon(1, 0), 8);
        });
        Sentences.holds(p, "Nothing of it comes, if a LINE can't.", () -> {
            BalloonsMoor x = Desk.harbour("00", "7,1234");
            x.hours(1);
            x.keep(0);
            Desk.due("a second line can't", Desk.balloons(x, "9,0010;9,00x0"), -12);
            Desk.due("a line for which there is no room", Desk.balloons(x, SHORT_SIX), -36);
            Desk.due("one still", x.count(1), 1);
            Desk.due("as it was", x.balloon(0, 0), 7);
            Desk.due("acts stay", x.count(9), 1);
            Desk.due("what is kept stays", x.again(0), true);
        });
    }

    private static void flockFault(String text, int p) {
        Desk.due("balloons " + text, Desk.balloons(new BalloonsMoor(), text), -1 - p);
    }

    private static void promise5Faults() {
        String p = "Promise 5";
        Sentences.holds(p, "-1 - p: the sign at p can't stand there", () -> {
            String[] wrong = {"x", "/", ":", "-", ";", "\0", "\u00ff"};
            String line = "12,3456";
            for (String sign : wrong) {
                for (int at = 0; at < line.length(); at++) {
                    flockFault(line.substring(0, at) + sign + line.substring(at), at);
                    flockFault("7,0010;" + line.substring(0, at) + sign, 7 + at);
                }
            }
            flockFault(",0010", 0);
            flockFault("100,0010", 2);
            flockFault("1,0000", 4);
            flockFault("1,00100", 6);
            flockFault("1,0010,", 6);
        });
        Sentences.holds(p, "(its end, if it ends too early", () -> {
            String line = "12,3456;";
            for (int size = 1; size < line.length(); size++) {
                if (size != 7) {
                    flockFault(line.substring(0, size), size);
                    flockFault("7,0010;" + line.substring(0, size), 7 + size);
                }
            }
            flockFault(line, 8);
        });
        Sentences.holds(p, "the first sign of a LINE for which there is no room", () -> {
            flockFault(SHORT_SIX + ";1,0010", 42);
            flockFault(SHORT_SIX + ";x", 42);
            BalloonsMoor x = new BalloonsMoor();
            Desk.due("six", Desk.balloons(x, SHORT_SIX), 6);
            Desk.due("a seventh", Desk.balloons(x, "1,0010"), -1);
            Desk.due("whatever it is", Desk.balloons(x, "x"), -1);
            Desk.due("nothing needs no room", Desk.balloons(x, ""), 0);
            BalloonsMoor y = Desk.harbour("", "1,0010;1,0010;1,0010;1,0010;1,0010");
            Desk.due("one and a seventh", Desk.balloons(y, "1,0010;1,0010"), -8);
            Desk.due("one", Desk.balloons(y, "1,0010"), 1);
        });
        Sentences.holds(p, "47, if it has more and the first 47 could go on or end)", () -> {
            Desk.due("47 signs", Desk.balloons(new BalloonsMoor(), SIX), 6);
            flockFault(SIX + ";", 47);
            flockFault(SIX + "0", 47);
            flockFault(SIX + ";1,0010", 47);
            flockFault("1,0010;" + SIX.substring(8) + ";1", 47);
            flockFault("1,0010;1,0010;" + SIX.substring(16) + ";1,00", 46);
            flockFault(SIX.substring(0, 46) + "x;1,0010", 46);
            flockFault(SIX.substring(0, 46) + ";1,0010", 46);
        });
    }

    private static void windsFault(String text, int p) {
        Desk.due("winds " + text, Desk.winds(new BalloonsMoor(), text), -1 - p);
    }

    private static void promise6() {
        String p = "Promise 6";
        Sentences.holds(p, "THE TEXT is THE WINDS (of all ten HEIGHTS): at how many HEIGHTS there is one.", () -> {
            BalloonsMoor x = Desk.harbour("00;90", "");
            Desk.due("all", Desk.winds(x, TEN), 10);
            Desk.due("the highest", x.ring(1, 3) * 10 + x.ring(1, 4), 11);
            Desk.due("one", Desk.winds(x, "-/-/-/-/-/-/-/-/-/73"), 1);
            Desk.due("none below", x.ring(0, 3), -1);
            Desk.due("the highest", x.ring(1, 3) * 10 + x.ring(1, 4), 73);
            Desk.due("none", Desk.winds(x, STILL), 0);
            Desk.due("none above", x.ring(1, 3), -1);
            Desk.due("not strong", x.ring(1, 4), 0);
        });
        Sentences.holds(p, "-1 - p: the sign at p can't stand there", () -> {
            windsFault("8", 0);
            windsFault("/", 0);
            windsFault("81/", 0);
            windsFault("00", 1);
            windsFault("04", 1);
            windsFault("0-", 1);
            windsFault("--", 1);
            windsFault("-;", 1);
            windsFault("011", 2);
            windsFault("-/8", 2);
            windsFault(STILL + "/", 19);
            windsFault(STILL + "/-", 19);
            windsFault(STILL + "x", 19);
            BalloonsMoor x = Desk.harbour("00", "");
            Desk.blown(x, TEN);
            Desk.due("refused", Desk.winds(x, "72/-/-/-/-/-/-/-/-/8"), -20);
            Desk.due("nothing changes", x.ring(0, 3) * 10 + x.ring(0, 4), 1);
        });
        Sentences.holds(p, "(its end, if it ends too early", () -> {
            windsFault("", 0);
            windsFault("0", 1);
            windsFault("-", 1);
            windsFault("01", 2);
            windsFault("01/", 3);
            windsFault(TEN.substring(0, 26), 26);
            windsFault(TEN.substring(0, 27), 27);
            windsFault(TEN.substring(0, 28), 28);
            windsFault(STILL.substring(0, 18), 18);
        });
        Sentences.holds(p, "29, if it has more and the first 29 could end)", () -> {
            windsFault(TEN + "/", 29);
            windsFault(TEN + "/11", 29);
            windsFault(TEN + "1", 29);
            windsFault(TEN + "\0", 29);
            windsFault(TEN.substring(0, 28) + "4/11", 28);
        });
    }

    private static void ruleFault(String text, int p) {
        Desk.due("rule " + text, Desk.rule(new BalloonsMoor(), text), -1 - p);
    }

    private static void promise7() {
        String p = "Promise 7";
        Sentences.holds(p, "THE TEXT is THE RULE (an empty one: none): 0.", () -> {
            BalloonsMoor x = Desk.harbour("", "50,1110");
            Desk.due("told", Desk.rule(x, "7"), 0);
            Desk.due("by it", x.lift(0), 7);
            Desk.due("empty", Desk.rule(x, ""), 0);
            Desk.due("as with none", x.lift(0), 41);
        });
        Sentences.holds(p, "-1 - p: the sign at p can't stand there", () -> {
            String[] things = {"x", ")", "*", "/", "+", "<", ">", "=", "G", " ", ":", "\0", "\u00ff"};
            for (String sign : things) {
                ruleFault(sign, 0);
                ruleFault("g+" + sign, 2);
                ruleFault("(" + sign, 1);
                ruleFault("g<" + sign + "g", 2);
                ruleFault("-" + sign, 1);
            }
            String[] joins = {"x", "g", "1", "(", ")", " ", ",", "\0", "\u00ff"};
            for (String sign : joins) {
                ruleFault("g" + sign + "g", 1);
                ruleFault("(g)" + sign, 3);
            }
            ruleFault("1234", 3);
            ruleFault("1<2<3", 3);
            ruleFault("(((((1)))))", 4);
            BalloonsMoor x = Desk.harbour("", "50,1110");
            Desk.ruled(x, "g*2");
            Desk.due("refused", Desk.rule(x, "g*3x"), -4);
            Desk.due("nothing changes", x.lift(0), 100);
        });
        Sentences.holds(p, "(its end, if it ends too early", () -> {
            String[] early = {"-", "(", "g+", "g-", "g*", "g/", "g<", "g>", "g=", "(g", "((1)", "g+(h-3", "1*--"};
            for (String text : early) {
                ruleFault(text, text.length());
            }
            ruleFault(MINUS_39 + "-", 40);
        });
    }

    private static void promise7Limit() {
        Sentences.holds("Promise 7", "40, if it has more and the first 40 could go on or end)", () -> {
            BalloonsMoor x = Desk.harbour("", "9,0010");
            Desk.due("40 signs", Desk.rule(x, MINUS_39 + "g"), 0);
            Desk.due("by them", x.lift(0), -9);
            String[] last = {"g", "1", "-", "("};
            for (String sign : last) {
                ruleFault(MINUS_39 + sign + ")", 40);
                ruleFault(MINUS_39 + sign + "g", 40);
            }
            ruleFault(MINUS_39 + "+g", 39);
            ruleFault(MINUS_39 + ")g", 39);
            ruleFault(MINUS_39.substring(1) + "1g)", 39);
            ruleFault(MINUS_39.substring(1) + "10", -1);
            ruleFault(MINUS_39.substring(1) + "100", 40);
            ruleFault(MINUS_39.substring(1) + "g+1", 40);
            ruleFault("x" + MINUS_39 + "gg", 0);
        });
    }
}
