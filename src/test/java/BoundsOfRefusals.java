/** Boundary sentences of refused calls and of questions: what they leave as it is. */
final class BoundsOfRefusals {
    private BoundsOfRefusals() {
    }

    static void run() {
        questions();
        refused();
        rowStays();
    }

    /** A harbour with something of everything, an act to undo, one thing kept, a ROW, four signs told. */
    private static BalloonsMoor busy() {
        BalloonsMoor x = Desk.harbour("30;50;61", "3,1031;55,1120;55,0025;90,0010;65,0030;75,0010");
        Desk.blown(x, "-/-/-/-/21/-/-/-/-/23");
        Desk.ruled(x, "g-s*5-c*4-r");
        x.launch(3);
        x.launch(1);
        x.launch(2);
        x.moor(2, 1);
        x.launch(4);
        x.moor(4, 2);
        x.hours(4);
        x.launch(5);
        x.rain(2);
        x.mark(1, 0, 3);
        x.mark(0, 1, 9);
        x.keep(0);
        x.sacks(2, 1);
        x.cargo(4, 1);
        x.rests(4);
        x.sign('6' << 24 | '1' << 16 | ';' << 8 | '7');
        return x;
    }

    private static String look(BalloonsMoor x, boolean withRow) {
        StringBuilder told = new StringBuilder();
        for (int what = 0; what <= 9; what++) {
            told.append(x.count(what)).append(' ');
        }
        for (int r = 0; r < x.count(0); r++) {
            for (int what = 0; what <= 4; what++) {
                told.append(x.ring(r, what)).append(' ');
            }
        }
        for (int b = 0; b < x.count(1); b++) {
            for (int what = 0; what <= 9; what++) {
                told.append(x.balloon(b, what)).append(' ');
            }
            told.append(x.lift(b)).append(' ');
        }
        return withRow ? told + java.util.Arrays.toString(Desk.rowOf(x)) : told.toString();
    }

    /** Whatever can be seen of it, now and behind what can be undone, marked and kept. */
    private static String all(BalloonsMoor x, boolean withRow) {
        String first = look(x, withRow);
        String kept = first + x.keep(7) + x.again(1) + x.again(2);
        String undone = kept + x.undo() + look(x, withRow) + x.undo() + look(x, withRow);
        String again = undone + x.again(0) + look(x, withRow);
        return again + x.lay(0) + x.lay(1) + x.lay(2) + x.ways();
    }

    private interface Asked {
        long of(BalloonsMoor x);
    }

    private static void changesNothing(String call, Asked asked) {
        BalloonsMoor x = busy();
        BalloonsMoor y = busy();
        asked.of(x);
        Desk.due(call + ": signs of the text", x.count(11), y.count(11));
        Desk.due(call + ": the text itself", x.tower() * 100 + x.count(11), y.tower() * 100 + y.count(11));
        Desk.due(call + " leaves all as it is", all(x, false).equals(all(y, false)), true);
    }

    private static void questions() {
        Sentences.holds("Terms 2", "Questions of HOURS to come change nothing.", () -> {
            for (int b = 0; b < 6; b++) {
                int balloon = b;
                changesNothing("drifts " + b, x -> x.drifts(balloon, 60));
                changesNothing("sinks " + b, x -> x.sinks(balloon));
                changesNothing("rises " + b, x -> x.rises(balloon, 1));
                changesNothing("lands " + b, x -> x.lands(balloon, 0, 6));
                changesNothing("nearest " + b, x -> x.nearest(balloon, 6));
                changesNothing("chance " + b, x -> x.chance(balloon, 8, 5, 9));
                changesNothing("when " + b, x -> x.when(balloon, 5));
            }
            changesNothing("storm", x -> x.storm());
            changesNothing("season", x -> x.season(5, 60));
        });
    }
    private static void refused(String call, long due, Asked asked) {
        BalloonsMoor x = busy();
        BalloonsMoor y = busy();
        Desk.due(call, asked.of(x), due);
        Desk.due(call + ": signs of the text", x.count(11), y.count(11));
        Desk.due(call + ": the text itself", x.tower(), y.tower());
        Desk.due(call + " leaves all as it is, the row too", all(x, true).equals(all(y, true)), true);
    }

    private static void refusedText(String call, String text, long due, Asked asked) {
        BalloonsMoor x = busy();
        BalloonsMoor y = busy();
        Desk.tell(x, text);
        y.end(0);
        Desk.due(call + " " + text, asked.of(x), due);
        Desk.due(call + " empties the text", x.count(11), 0);
        Desk.due(call + " leaves all as it is, the row too", all(x, true).equals(all(y, true)), true);
    }

    private static void refused() {
        Sentences.holds("Terms 2", "Refused calls answer NONE, or false, and change nothing but THE TEXT,"
            + " which a call that reads it empties.", () -> {
            BalloonsMoor x = busy();
            Desk.due("yard", x.count(3), 1);
            Desk.due("free", x.count(4), 2 + 32);
            Desk.due("moored", x.count(5), 4 + 16);
            Desk.due("lost", x.count(6), 8);
            refusedTellings();
            refusedActs();
            refusedQuestions();
        });
    }

    private static void refusedTellings() {
        refusedText("tower", "61;6", -5, x -> x.tower());
        refusedText("balloons without room", "61,0010", -1, x -> x.balloons());
        refusedText("winds", "61/6", -5, x -> x.winds());
        refusedText("winds", "", -1, x -> x.winds());
        refusedText("rule", "g+", -3, x -> x.rule());
        refusedText("day", "c2;h", -5, x -> x.day());
        refused("end above", 0, x -> x.end(5) ? 1 : 0);
        refused("end below", 0, x -> x.end(-1) ? 1 : 0);
        refused("rain above", -1, x -> x.rain(10));
        refused("rain below", -1, x -> x.rain(-1));
        refused("sheet of another kind", -1, x -> x.sheet(4, 1, 1, 1));
        refused("sheet of 7", -1, x -> x.sheet(2, 7, 1, 1));
        refused("sheet of -1", -2, x -> x.sheet(2, -1, 1, 1));
        BalloonsMoor full = new BalloonsMoor();
        for (int i = 0; i < 20; i++) {
            full.sign('0' << 24 | '0' << 16 | ';' << 8 | '0');
        }
        Desk.due("sign", full.sign(-1), -1);
        Desk.due("the text stays", full.count(11), 80);
    }

    private static void refusedActs() {
        refused("launch none such", -1, x -> x.launch(6));
        refused("launch a free one", -2, x -> x.launch(1));
        refused("launch without lift", -3, x -> x.launch(0));
        refused("moor none such", -1, x -> x.moor(6, 0));
        refused("moor at none such", -1, x -> x.moor(5, 3));
        refused("moor one in the yard", -2, x -> x.moor(0, 0));
        refused("moor one too far", -3, x -> x.moor(1, 0));
        refused("moor one too high", -4, x -> x.moor(5, 0));
        refused("moor where another is", -5, x -> x.moor(5, 2));
        refused("cast none such", -1, x -> x.cast(-1));
        refused("cast one in the yard", -2, x -> x.cast(0));
        refused("sacks of none such", -1, x -> x.sacks(6, 1));
        refused("no sacks", -1, x -> x.sacks(0, 0));
        refused("sacks to a free one", -2, x -> x.sacks(1, 1));
        refused("sacks of a lost one", -2, x -> x.sacks(3, -1));
        refused("too many sacks", -3, x -> x.sacks(0, 9));
        refused("too few sacks", -3, x -> x.sacks(0, -2));
        refused("cargo of none such", -1, x -> x.cargo(6, 1));
        refused("too much cargo", -1, x -> x.cargo(0, 10));
        refused("cargo of a free one", -2, x -> x.cargo(1, 2));
        refused("fill none such", -1, x -> x.fill(6, 1));
        refused("fill too much", -1, x -> x.fill(0, 100));
        refused("fill a moored one", -2, x -> x.fill(2, 9));
        refused("too many hours", -1, x -> x.hours(49));
        refused("too few hours", -1, x -> x.hours(-1));
        refused("mark at none such", -1, x -> x.mark(3, 0, 1));
        refused("mark of another kind", -1, x -> x.mark(0, 3, 1));
        refused("mark too high", -1, x -> x.mark(0, 0, 100));
        refused("keep above", 0, x -> x.keep(3) ? 1 : 0);
        refused("keep below", 0, x -> x.keep(-1) ? 1 : 0);
        refused("again nothing kept", 0, x -> x.again(1) ? 1 : 0);
        refused("again above", 0, x -> x.again(3) ? 1 : 0);
        BalloonsMoor none = new BalloonsMoor();
        none.hours(0);
        none.undo();
        none.hours(3);
        none.undo();
        Desk.due("undo none", none.undo(), -1);
        Desk.due("now stays", none.count(2), 0);
    }

    private static void refusedQuestions() {
        refused("drifts of none such", -1, x -> x.drifts(6, 1));
        refused("drifts too long", -1, x -> x.drifts(1, 61));
        refused("sinks none such", -1, x -> x.sinks(6));
        refused("sinks never", -2, x -> x.sinks(5));
        refused("sinks one in the yard", -3, x -> x.sinks(0));
        refused("rises none such", -1, x -> x.rises(6, 1));
        refused("rises too high", -1, x -> x.rises(1, 10));
        refused("rises not by all", -2, x -> x.rises(1, 9));
        refused("rises a lost one", -3, x -> x.rises(3, 1));
        refused("berths of none such", -1, x -> x.berths(64));
        refused("served of none such", -1, x -> x.served(64));
        refused("yields none such", -1, x -> x.yields(6));
        refused("lands none such", -1, x -> x.lands(6, 0, 1));
        refused("lands at none such", -1, x -> x.lands(1, 3, 1));
        refused("lands too late", -1, x -> x.lands(1, 0, 7));
        refused("lands not", -2, x -> x.lands(1, 0, 6));
        refused("lands one in the yard", -3, x -> x.lands(0, 0, 6));
        refused("lands where another is", -4, x -> x.lands(5, 2, 6));
        refused("nearest none such", -1, x -> x.nearest(6, 1));
        refused("nearest at none", -2, x -> x.nearest(1, 6));
        refused("nearest one in the yard", -3, x -> x.nearest(0, 6));
        refused("rests of another c", -1, x -> x.rests(10));
        refused("lay at none such", -1, x -> x.lay(3));
        refused("chance of none such", -1, x -> x.chance(6, 1, 1, 1));
        refused("chance too long", -1, x -> x.chance(1, 9, 1, 1));
        refused("chance of one in the yard", -2, x -> x.chance(0, 1, 1, 1));
        refused("when none such", -1, x -> x.when(6, 1));
        refused("when of a moored one", -2, x -> x.when(2, 1));
        refused("season too long", -1, x -> x.season(1, 61));
        refused("another count", -100, x -> x.count(12));
    }

    private static void rowStays() {
        Sentences.holds("Terms 2", "The ROW stays with NONE and with each number below 0 that tells why there is no answer"
            + " (-2, -3 ..)", () -> {
            BalloonsMoor x = busy();
            Asked[] asked = {y -> y.hours(49), y -> y.drifts(1, 61), y -> y.sinks(6), y -> y.sinks(5), y -> y.sinks(0),
                y -> y.rises(1, 10), y -> y.rises(1, 9), y -> y.rises(3, 1), y -> y.berths(64), y -> y.served(64),
                y -> y.yields(6), y -> y.lands(1, 0, 7), y -> y.lands(1, 0, 6), y -> y.lands(0, 0, 6),
                y -> y.lands(5, 2, 6), y -> y.nearest(6, 1), y -> y.nearest(1, 6), y -> y.nearest(0, 6),
                y -> y.rests(10), y -> y.lay(3), y -> y.chance(1, 9, 1, 1), y -> y.chance(0, 1, 1, 1),
                y -> y.when(6, 1), y -> y.when(2, 1), y -> y.season(1, 61), y -> y.day()};
            for (int i = 0; i < asked.length; i++) {
                Desk.due("call " + i, asked[i].of(x) < 0, true);
                Desk.dueRow("call " + i, x, 4, 4);
            }
        });
        Sentences.holds("Terms 2", "a number below 0 that is meant as such comes with its ROW", () -> {
            BalloonsMoor x = Desk.harbour("00", "5,9010");
            x.rests(4);
            Desk.due("lift is below 0 and tells no row", x.lift(0), -40);
            Desk.dueRow("the row of the call ahead", x, 4, 4);
            Desk.due("drifts tells NONE for a place in its row", x.drifts(0, 1), 0);
            Desk.dueRow("drifts tells NONE for a place in its row", x, 5, -1);
        });
    }
}
