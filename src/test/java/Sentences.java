import java.io.IOException;
import java.nio.file.Files;
import java.nio.file.Path;
import java.util.LinkedHashMap;
import java.util.Map;
import java.util.regex.Matcher;
import java.util.regex.Pattern;

/** The sentences of the document that name a boundary case, each with a test of its own. */
final class Sentences {
    private static final Path DOCUMENT = Path.of("../shared/DOC.md");
    // Of a promise each word has to be quoted by a test, of the other parts what names a boundary case.
    private static final Pattern WORD = Pattern.compile("\\w+");
    private static final Pattern BOUNDARY = Pattern.compile("Refused|NONE|NoSuch|-\\d|\\d \\.\\.|\\.\\. \\d|%"
        + "|\\b(?:empty|none|nothing|others|another|likewise|alone|else|beyond|below|above|at most|at least|or less"
        + "|or more|at first|together|without|first|fewest|least|most|latest)\\b");
    private static final Map<String, String> TEXTS = new LinkedHashMap<>();
    private static final Map<String, boolean[]> QUOTED = new LinkedHashMap<>();
    private static int held = 0;
    private static int broken = 0;

    private Sentences() {
    }

    /** Runs the test of one sentence, which has to stand in that part of the document. */
    static void holds(String part, String sentence, Runnable test) {
        boolean fine = quote(part, sentence);
        int ahead = Desk.wrongs();
        Desk.speakOf(part + " \"" + sentence + "\": ");
        try {
            test.run();
        } catch (RuntimeException e) {
            System.out.println(part + " \"" + sentence + "\": the test ended with " + e);
            fine = false;
        }
        Desk.speakOf("");
        held++;
        if (!fine || Desk.wrongs() > ahead) {
            broken++;
            System.out.println("BROKEN " + part + ": " + sentence);
        }
    }

    private static boolean quote(String part, String sentence) {
        if (TEXTS.isEmpty()) {
            readDocument();
        }
        String text = TEXTS.getOrDefault(part, "");
        int at = text.indexOf(sentence);
        if (at < 0) {
            System.out.println(part + " does not say: " + sentence);
            return false;
        }
        for (int i = at; i < at + sentence.length(); i++) {
            QUOTED.get(part)[i] = true;
        }
        return true;
    }

    /** Fails if there is a sentence that no test quotes. */
    static void close(String name) {
        for (String part : TEXTS.keySet()) {
            String text = unquoted(part);
            Matcher left = (part.startsWith("Promise") ? WORD : BOUNDARY).matcher(text);
            if (left.find()) {
                broken++;
                int end = text.indexOf('\n', left.start());
                System.out.println(part + " says what no test quotes: "
                    + text.substring(text.lastIndexOf('\n', left.start()) + 1, end < 0 ? text.length() : end).trim());
            }
        }
        System.out.println(name + ": " + held + " sentences, " + broken + " broken");
        if (broken != 0) {
            System.exit(1);
        }
    }

    private static String unquoted(String part) {
        StringBuilder left = new StringBuilder(TEXTS.get(part));
        boolean[] quoted = QUOTED.get(part);
        for (int i = 0; i < quoted.length; i++) {
            if (quoted[i]) {
                left.setCharAt(i, '\n');
            }
        }
        return left.toString();
    }

    private static void readDocument() {
        String whole;
        try {
            whole = Files.readString(DOCUMENT).replaceAll("```[a-z]*", " ");
        } catch (IOException e) {
            throw new IllegalStateException("the document can't be read at " + DOCUMENT.toAbsolutePath(), e);
        }
        put("What it is", between(whole, "An object is used", "## The public face"));
        put("The face", between(whole, "public final class", "## Terms"));
        put("Terms 1", between(whole, "1. RINGS", "2. ROW"));
        put("Terms 2", between(whole, "2. ROW", "Ahead of the calls"));
        put("Heads", between(whole, "Ahead of the calls", "## Promise 1:"));
        for (int p = 1; p <= 45; p++) {
            String text = between(whole, "## Promise " + p + ":", p < 45 ? "## Promise " + (p + 1) + ":" : "## Not");
            put("Promise " + p, text.substring(text.indexOf("`:") + 2));
        }
    }

    private static String between(String whole, String from, String to) {
        int at = whole.indexOf(from);
        int end = whole.indexOf(to, at);
        if (at < 0 || end < 0) {
            throw new IllegalStateException("the document has no part from " + from + " to " + to);
        }
        return whole.substring(at, end);
    }

    private static void put(String part, String text) {
        String flat = text.replaceAll("\\s+", " ");
        TEXTS.put(part, flat);
        QUOTED.put(part, new boolean[flat.length()]);
    }
}
