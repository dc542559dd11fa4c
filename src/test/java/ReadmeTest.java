import java.io.IOException;
import java.lang.reflect.InvocationTargetException;
import java.lang.reflect.Method;
import java.nio.file.Files;
import java.nio.file.Path;
import java.util.regex.Matcher;
import java.util.regex.Pattern;

/** The example in README.md, line by line: each answer is the one told behind the call. */
public final class ReadmeTest {
    private static final Pattern TOLD = Pattern.compile("tell\\(moor, \"(.*)\"\\);");
    private static final Pattern CALL = Pattern.compile("moor\\.(\\w+)\\((.*?)\\); +// (\\S+)");

    public static void main(String[] args) throws IOException, IllegalAccessException {
        String readme = Files.readString(Path.of("README.md"));
        int from = readme.indexOf("BalloonsMoor moor = new BalloonsMoor();\n");
        int to = readme.indexOf("```", Math.max(from, 0));
        Desk.due("README.md has an example", from >= 0 && to > from, true);
        String[] lines = from >= 0 && to > from ? readme.substring(from, to).split("\n") : new String[0];
        BalloonsMoor moor = new BalloonsMoor();
        for (int i = 1; i < lines.length; i++) {
            run(moor, lines[i]);
        }
        Desk.close("ReadmeTest");
    }

    private static void run(BalloonsMoor moor, String line) throws IllegalAccessException {
        Matcher told = TOLD.matcher(line);
        Matcher call = CALL.matcher(line);
        if (told.matches()) {
            Desk.tell(moor, told.group(1));
        } else if (call.matches()) {
            String got = answer(moor, call.group(1), call.group(2));
            Desk.due("README.md: " + line + " (now " + got + ")", got.equals(call.group(3)), true);
        } else {
            Desk.due("README.md has a line that can't be run: " + line, false, true);
        }
    }

    private static String answer(BalloonsMoor moor, String name, String told) throws IllegalAccessException {
        String[] words = told.isEmpty() ? new String[0] : told.split(", ");
        Object[] numbers = new Object[words.length];
        for (int i = 0; i < words.length; i++) {
            numbers[i] = Integer.valueOf(words[i]);
        }
        for (Method m : BalloonsMoor.class.getMethods()) {
            if (m.getName().equals(name) && m.getParameterCount() == numbers.length) {
                try {
                    return String.valueOf(m.invoke(moor, numbers));
                } catch (InvocationTargetException e) {
                    return e.getCause().getClass().getSimpleName();
                }
            }
        }
        return "no such call";
    }
}
