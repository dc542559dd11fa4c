/** Promises 34 to 38: who lay where. */
public final class MarksTest {
    public static void main(String[] args) {
        marks();
        wipes();
        lays();
        ways();
        sure();
        Desk.close("MarksTest");
    }

    private static void marks() {
        BalloonsMoor x = Desk.harbour("00;11", "9,0010");
        Desk.due("no ring", x.mark(2, 0, 1), -1);
        Desk.due("no ring", x.mark(-1, 0, 1), -1);
        Desk.due("what 3", x.mark(0, 3, 1), -1);
        Desk.due("what -1", x.mark(0, -1, 1), -1);
        Desk.due("v 100", x.mark(0, 0, 100), -1);
        Desk.due("v -1", x.mark(0, 0, -1), -1);
        for (int i = 1; i <= 12; i++) {
            Desk.due("mark", x.mark(i % 2, i % 3, i % 2 == 0 ? 0 : 99), i);
        }
        Desk.due("a thirteenth", x.mark(0, 0, 1), -1);
        Desk.due("marks", x.count(8), 12);
        x.hours(1);
        x.undo();
        Desk.balloons(x, "9,0010");
        Desk.due("they stay", x.count(8), 12);
    }

    private static void wipes() {
        BalloonsMoor x = Desk.harbour("00;11", "9,0010");
        Desk.due("none", x.wipe(), 0);
        x.mark(0, 0, 9);
        x.mark(0, 0, 9);
        Desk.due("two", x.wipe(), 2);
        Desk.due("none", x.count(8), 0);
        Desk.due("all fit", x.lay(0), 1);
    }

    private static void lays() {
        BalloonsMoor x = Desk.harbour("00;11", "9,0130;9,1050;9,2070;9,0010");
        Desk.due("no marks", x.lay(1), 15);
        Desk.dueRow("no marks", x, 4);
        x.mark(0, 0, 3);
        Desk.due("rope 3 or more", x.lay(0), 7);
        Desk.dueRow("how many", x, 3);
        x.mark(0, 1, 5);
        Desk.due("weight 5 or less", x.lay(0), 3);
        x.mark(0, 2, 0);
        Desk.due("not 0", x.lay(0), 2);
        Desk.dueRow("how many", x, 1);
        Desk.due("another ring", x.lay(1), 15);
        x.sacks(1, 1);
        Desk.due("weight as it is", x.lay(0), 0);
        Desk.dueRow("none", x, 0);
        Desk.due("no ring", x.lay(2), -1);
        Desk.due("no ring", x.lay(-1), -1);
        Desk.dueRow("the row stays", x, 0);
    }

    private static void ways() {
        BalloonsMoor x = Desk.harbour("00;11;22;33;44;55;66;77", "9,0130;9,1050;9,2070");
        Desk.due("no marks", x.ways(), 1);
        Desk.dueRow("no marks", x);
        x.mark(5, 0, 5);
        Desk.due("two fit", x.ways(), 2);
        Desk.dueRow("two fit", x, 1);
        x.mark(2, 0, 0);
        Desk.due("unlike ones", x.ways(), 4);
        Desk.dueRow("by rings", x, 0, 1);
        x.mark(2, 2, 0);
        Desk.due("two", x.ways(), 2);
        Desk.dueRow("two", x, 1, 2);
        x.mark(7, 1, 4);
        Desk.due("two", x.ways(), 2);
        Desk.dueRow("three rings", x, 1, 2, 0);
        x.mark(0, 0, 0);
        Desk.due("none", x.ways(), 0);
        Desk.dueRow("none", x);
        x.wipe();
        for (int r = 0; r < 8; r++) {
            x.mark(r, 0, 0);
        }
        Desk.due("more rings than balloons", x.ways(), 0);
        BalloonsMoor y = Desk.harbour("00;11;22;33;44;55;66;77", "9,0010;9,0010;9,0010;9,0010;9,0010;9,0010");
        for (int r = 1; r < 7; r++) {
            y.mark(r, 0, 1);
        }
        Desk.due("all", y.ways(), 720);
        Desk.dueRow("all", y, 0, 1, 2, 3, 4, 5);
    }

    private static void sure() {
        BalloonsMoor x = Desk.harbour("00;11;22;33", "9,0130;9,1050;9,2070");
        Desk.due("no marks", x.sure(), 0);
        Desk.dueRow("no marks", x);
        x.mark(3, 0, 5);
        Desk.due("none", x.sure(), 0);
        Desk.dueRow("none", x);
        x.mark(1, 0, 5);
        x.mark(2, 0, 0);
        Desk.due("what is left", x.sure(), 4);
        Desk.dueRow("what is left", x, 0);
        x.mark(1, 0, 7);
        Desk.due("all", x.sure(), 14);
        Desk.dueRow("by rings", x, 2, 0, 1);
        x.mark(1, 2, 2);
        Desk.due("no ways", x.sure(), 0);
        Desk.dueRow("no ways", x);
    }
}
