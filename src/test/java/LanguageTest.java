import java.io.IOException;
import java.lang.reflect.Array;
import java.lang.reflect.Constructor;
import java.lang.reflect.Field;
import java.lang.reflect.Method;
import java.lang.reflect.Modifier;
import java.nio.file.Files;
import java.nio.file.Path;
import java.util.ArrayList;
import java.util.IdentityHashMap;
import java.util.List;
import java.util.Set;
import java.util.regex.Matcher;
import java.util.regex.Pattern;

/** What a look at the source and at the class can tell of ../shared/LANGUAGE.md; rules are told by their number. */
public final class LanguageTest {
    private static final Path SOURCE = Path.of("src/main/java/BalloonsMoor.java");
    private static final Set<String> IMPORTS = Set.of("java.util.ArrayList", "java.util.Arrays", "java.util.Iterator",
        "java.util.List", "java.util.NoSuchElementException");
    private static final Set<String> LIBRARY = Set.of("Math.abs", "Math.max", "Math.min", "Math.floorDiv",
        "Math.floorMod", "Integer.bitCount", "Integer.compare", "Long.bitCount", "Long.compare", "Arrays.fill",
        "Arrays.copyOf", "Arrays.copyOfRange", "System.arraycopy");
    private static final String[][] NEVER = {
        {"2", "->"}, {"2", "::"}, {"3", "\\b(Object|Map|Set|HashMap|Random|Stream|Optional|var)\\b"},
        {"3", "\\[\\]\\s*\\[\\]\\s*\\["}, {"4", "\\w+Exact\\b"}, {"4", "\\bString\\s*\\.\\s*\\w"},
        {"5", "\\bstatic\\s*\\{"}, {"6", "\\b(finally|synchronized|assert|instanceof)\\b"},
        {"6", "\\bcatch\\b"}, {"6", "\\b(equals|hashCode|toString|getMessage)\\b"}, {"9", "while\\s*\\(\\s*true\\s*\\)"},
        {"9", "for\\s*\\([^;]*;\\s*;"}, {"10", "\"\\s*\\+|\\+\\s*\""}, {"13", "\\b(Thread|System\\s*\\.\\s*(?!arraycopy))\\b"}};

    public static void main(String[] args) throws IOException, IllegalAccessException {
        String source = bare(Files.readString(SOURCE));
        words(source);
        lengths(source);
        whatIsMade(source);
        for (Class<?> type : types()) {
            members(type);
        }
        Desk.due("rule 11: classes", types().size() <= 12, true);
        int[] room = new int[2];
        weigh(new BalloonsMoor(), new IdentityHashMap<>(), room);
        Desk.due("rule 12: an object's own objects: " + room[0], room[0] <= 100, true);
        Desk.due("rule 12: their fields and elements: " + room[1], room[1] <= 3000, true);
        Desk.close("LanguageTest");
    }

    /** Without comments, and with nothing in the signs and texts that are written out. */
    private static String bare(String source) {
        return source.replaceAll("(?s)/\\*.*?\\*/", "").replaceAll("//[^\n]*", "")
            .replaceAll("'(\\\\.|[^'\\\\])'", "' '").replaceAll("\"(\\\\.|[^\"\\\\\n])*\"", "\"\"");
    }

    private static void words(String source) {
        Desk.due("rule 1: no package", source.contains("package "), false);
        Matcher imported = Pattern.compile("\\bimport\\s+([\\w.*]+)").matcher(source);
        while (imported.find()) {
            Desk.due("rule 4: import " + imported.group(1), IMPORTS.contains(imported.group(1)), true);
        }
        Matcher called = Pattern.compile("\\b(?:Math|Integer|Long|Arrays|System)\\.\\w+").matcher(source);
        while (called.find()) {
            Desk.due("rule 4: " + called.group(), LIBRARY.contains(called.group()), true);
        }
        for (String[] never : NEVER) {
            Matcher found = Pattern.compile(never[1]).matcher(source.replaceAll("import [^\n]*", ""));
            Desk.due("rule " + never[0] + ": " + never[1], found.find(), false);
        }
    }

    private static void lengths(String source) {
        String[] lines = source.split("\n");
        for (int i = 0; i < lines.length; i++) {
            if (lines[i].matches("( {4}| {8})[\\w\\[\\] ]+\\(.*\\{")) {
                String end = " ".repeat(lines[i].length() - lines[i].stripLeading().length()) + "}";
                int last = i;
                while (last < lines.length && !lines[last].equals(end)) {
                    last++;
                }
                Desk.due("rule 11: lines of " + lines[i].strip(), last - i < 60, true);
            }
        }
    }

    /** Only fields and the constructor make what lasts; a call makes nothing but the exception that it throws. */
    private static void whatIsMade(String source) {
        for (String line : source.split("\n")) {
            if (line.matches(".*\\bnew\\b.*")) {
                boolean thrown = line.matches(" +throw new NoSuchElementException\\(\\);|.*default: throw new NoSuchElementException\\(\\);");
                boolean kept = line.matches(" +(private )?final \\w+\\[\\] \\w+ = new \\w+\\[.*\\];");
                boolean part = line.matches(" {8}\\w+ = new [A-Z]\\w+\\([\\w, ]*\\);");
                Desk.due("rules 6, 12: " + line.strip(), thrown || kept || part, true);
            }
        }
    }

    private static List<Class<?>> types() {
        List<Class<?>> types = new ArrayList<>(List.of(BalloonsMoor.class.getDeclaredClasses()));
        types.add(BalloonsMoor.class);
        return types;
    }

    private static void members(Class<?> type) {
        int own = 0;
        for (Field f : type.getDeclaredFields()) {
            boolean isStatic = Modifier.isStatic(f.getModifiers());
            own += isStatic ? 0 : 1;
            Desk.due("rule 5: " + type.getName() + "." + f.getName(), !isStatic || Modifier.isFinal(f.getModifiers()), true);
        }
        Desk.due("rule 11: fields of " + type.getName() + ": " + own, own <= 20, true);
        for (Method m : type.getDeclaredMethods()) {
            Desk.due("rule 11: parameters of " + m.getName(), m.getParameterCount() <= 7, true);
        }
        for (Constructor<?> c : type.getDeclaredConstructors()) {
            Desk.due("rule 11: parameters of a constructor", c.getParameterCount() <= 7, true);
        }
        Desk.due("rule 2: " + type.getName() + " has no classes of its own",
            type == BalloonsMoor.class || type.getDeclaredClasses().length == 0, true);
    }

    /** Counts objects and arrays, and their fields and elements. */
    private static void weigh(Object one, IdentityHashMap<Object, Object> seen, int[] room) throws IllegalAccessException {
        if (one == null || seen.put(one, one) != null) {
            return;
        }
        room[0]++;
        if (one.getClass().isArray()) {
            room[1] += Array.getLength(one);
            return;
        }
        for (Field f : one.getClass().getDeclaredFields()) {
            if (!Modifier.isStatic(f.getModifiers())) {
                room[1]++;
                f.setAccessible(true);
                if (!f.getType().isPrimitive()) {
                    weigh(f.get(one), seen, room);
                }
            }
        }
    }
}
