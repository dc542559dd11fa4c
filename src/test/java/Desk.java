import java.util.Arrays;
import java.util.NoSuchElementException;

/** What the tests share: texts are told to an object, answers and ROWS are held against what is due. */
final class Desk {
    private static int asked = 0;
    private static int wrong = 0;
    private static String about = "";

    private Desk() {
    }

    /** A call whose exception is looked at. */
    interface Call {
        long answer();
    }

    static void tell(BalloonsMoor x, String text) {
        x.end(0);
        for (int i = 0; i < text.length(); i += 4) {
            int v = 0;
            for (int k = 0; k < 4; k++) {
                v = v << 8 | (i + k < text.length() ? text.charAt(i + k) & 255 : 0);
            }
            if (x.sign(v) < 0) {
                throw new IllegalArgumentException("too long for a test: " + text);
            }
        }
        x.end(text.length());
    }

    static int tower(BalloonsMoor x, String text) {
        tell(x, text);
        return x.tower();
    }

    static int balloons(BalloonsMoor x, String text) {
        tell(x, text);
        return x.balloons();
    }

    static int winds(BalloonsMoor x, String text) {
        tell(x, text);
        return x.winds();
    }

    static int rule(BalloonsMoor x, String text) {
        tell(x, text);
        return x.rule();
    }

    /** A rule that has to be taken. */
    static void ruled(BalloonsMoor x, String text) {
        due("rule " + text, rule(x, text), 0);
    }

    /** Winds that have to be taken. */
    static void blown(BalloonsMoor x, String text) {
        due("winds " + text, winds(x, text) >= 0, true);
    }

    static int day(BalloonsMoor x, String text) {
        tell(x, text);
        return x.day();
    }

    /** A tower and balloons, all else as at first. */
    static BalloonsMoor harbour(String tower, String balloons) {
        BalloonsMoor x = new BalloonsMoor();
        due("tower " + tower, tower(x, tower), (tower.length() + 1) / 3);
        due("balloons " + balloons, balloons(x, balloons), balloons.isEmpty() ? 0 : balloons.split(";").length);
        return x;
    }

    /** Launches BALLOONS 0, 1, .. and moors them at these RINGS. */
    static void hang(BalloonsMoor x, int... rings) {
        for (int b = 0; b < rings.length; b++) {
            due("launch " + b, x.launch(b) >= 0, true);
            due("moor " + b, x.moor(b, rings[b]) >= 0, true);
        }
    }

    /** A cell as balloon() 9 tells it. */
    static int cell(int x, int y) {
        return 19 * (y + 9) + x + 9;
    }

    /** What the next answers are held for: it comes ahead of what is printed of a wrong one. */
    static void speakOf(String what) {
        about = what;
    }

    static int wrongs() {
        return wrong;
    }

    static void due(String what, long got, long want) {
        asked++;
        if (got != want) {
            wrong++;
            System.out.println(about + what + " answered " + got + ", due is " + want);
        }
    }

    static void due(String what, boolean got, boolean want) {
        due(what, got ? 1 : 0, want ? 1 : 0);
    }

    static long[] rowOf(BalloonsMoor x) {
        long[] row = new long[x.count(10)];
        for (int i = 0; i < row.length; i++) {
            row[i] = x.row(i);
        }
        return row;
    }

    static void dueRow(String what, BalloonsMoor x, long... want) {
        asked++;
        long[] got = rowOf(x);
        if (!Arrays.equals(got, want)) {
            wrong++;
            System.out.println(about + what + " told the row " + Arrays.toString(got) + ", due is " + Arrays.toString(want));
        }
    }

    static void dueNone(String what, Call call) {
        asked++;
        try {
            long got = call.answer();
            wrong++;
            System.out.println(about + what + " answered " + got + ", due is NoSuchElementException");
        } catch (NoSuchElementException e) {
            return;
        }
    }

    static void close(String name) {
        System.out.println(name + ": " + asked + " asked, " + wrong + " wrong");
        if (wrong != 0) {
            System.exit(1);
        }
    }
}
