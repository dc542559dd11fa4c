/** Promises 32 and 33: storms, prices. */
public final class StormTest {
    public static void main(String[] args) {
        storms();
        stormsThatTakeSome();
        rests();
        Desk.close("StormTest");
    }

    private static BalloonsMoor moored(String ropes) {
        StringBuilder balloons = new StringBuilder();
        for (int i = 0; i < ropes.length(); i++) {
            balloons.append(i == 0 ? "" : ";").append("5,00").append(ropes.charAt(i)).append('0');
        }
        BalloonsMoor x = Desk.harbour("00;01;02;03;04;05", balloons.toString());
        for (int b = 0; b < ropes.length(); b++) {
            x.launch(b);
            x.moor(b, b);
        }
        return x;
    }

    private static void storms() {
        BalloonsMoor none = Desk.harbour("00", "5,0010;5,0010");
        none.launch(0);
        none.hours(0);
        Desk.due("only moored ones", none.storm(), 0);
        Desk.dueRow("only moored ones", none);
        BalloonsMoor x = moored("321");
        Desk.due("all", x.storm(), 3);
        Desk.dueRow("the shortest rope first", x, 2, 1, 0);
        Desk.due("nothing changes", x.count(5), 7);
        BalloonsMoor y = moored("999999");
        Desk.due("all", y.storm(), 6);
        Desk.dueRow("the least row", y, 0, 1, 2, 3, 4, 5);
        BalloonsMoor z = moored("932");
        Desk.due("all", z.storm(), 3);
        Desk.dueRow("as long as it goes", z, 0, 2, 1);
    }

    private static void stormsThatTakeSome() {
        BalloonsMoor x = moored("111");
        Desk.due("one", x.storm(), 1);
        Desk.dueRow("one", x, 0);
        BalloonsMoor y = moored("221219");
        Desk.due("three", y.storm(), 3);
        Desk.dueRow("three", y, 0, 1, 5);
        BalloonsMoor z = moored("311222");
        Desk.due("three", z.storm(), 3);
        Desk.dueRow("three", z, 1, 3, 0);
    }

    private static void rests() {
        BalloonsMoor x = new BalloonsMoor();
        Desk.due("-1", x.rests(-1), -1);
        Desk.due("10", x.rests(10), -1);
        Desk.dueRow("no row", x);
        for (int c = 0; c <= 9; c++) {
            int pairs = 0;
            int least = 0;
            for (int a = 9; a >= 1; a--) {
                for (int b = 9; b >= 1; b--) {
                    if (isAtRest(a, b, c)) {
                        pairs++;
                        least = 10 * a + b;
                    }
                }
            }
            Desk.due("rests " + c, x.rests(c), pairs);
            Desk.dueRow("rests " + c, x, least / 10, least % 10);
        }
        Desk.due("c 0", x.rests(0), 2);
        Desk.dueRow("c 0", x, 1, 1);
        Desk.due("c 1", x.rests(1), 3);
        Desk.dueRow("c 1", x, 1, 1);
        Desk.due("c 9", x.rests(9), 1);
        Desk.dueRow("c 9", x, 9, 9);
    }

    private static boolean isAtRest(int a, int b, int c) {
        boolean rest = true;
        for (int other = 1; other <= 9; other++) {
            rest &= won(other, b, c) <= won(a, b, c) && won(other, a, c) <= won(b, a, c);
        }
        return rest;
    }

    private static int won(int mine, int others, int c) {
        return (1 - Integer.signum(mine - others)) * 3 * (mine - c);
    }
}
