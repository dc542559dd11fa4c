import java.io.ByteArrayOutputStream;
import java.io.IOException;
import java.io.OutputStream;
import java.io.PrintStream;
import java.io.StringWriter;
import java.lang.reflect.Field;
import java.lang.reflect.Method;
import java.net.URI;
import java.nio.file.DirectoryStream;
import java.nio.file.Files;
import java.nio.file.Path;
import java.util.ArrayList;
import java.util.HashMap;
import java.util.List;
import java.util.Map;
import java.util.concurrent.ExecutorService;
import java.util.concurrent.Executors;
import java.util.concurrent.Future;
import java.util.regex.Matcher;
import java.util.regex.Pattern;
import javax.tools.FileObject;
import javax.tools.ForwardingJavaFileManager;
import javax.tools.JavaCompiler;
import javax.tools.JavaFileManager;
import javax.tools.JavaFileObject;
import javax.tools.SimpleJavaFileObject;
import javax.tools.ToolProvider;

/**
 * Spoils the program in one place at a time (a sign, a number, a statement) and tells which spoilt ones the
 * boundary tests let pass: each of these is either the same program in other words, or a sentence without a test.
 * Not a part of .ci/run. To run it: java src/test/tools/Mutants.java [first line] [last line]
 */
public final class Mutants {
    private static final Path PROGRAM = Path.of("src/main/java/BalloonsMoor.java");
    private static final Path TESTS = Path.of("src/test/java");
    private static final int PATIENCE = 20000;
    private static final JavaCompiler COMPILER = ToolProvider.getSystemJavaCompiler();
    private static final PrintStream SCREEN = System.out;

    private static final List<Mutant> MUTANTS = new ArrayList<>();
    private static final Map<String, byte[]> TEST_CLASSES = new HashMap<>();
    private static String source;
    private static String bare;
    private static List<String> suites;

    private record Mutant(int at, int end, String instead, String tail) {
        Mutant(int at, int end, String instead) {
            this(at, end, instead, "");
        }
    }

    public static void main(String[] args) throws Exception {
        source = Files.readString(PROGRAM);
        bare = withoutWords(source);
        compileTests();
        suites = suitesOf(Files.readString(TESTS.resolve("BoundsTest.java")));
        gather();
        int from = args.length > 0 ? Integer.parseInt(args[0]) : 1;
        int to = args.length > 1 ? Integer.parseInt(args[1]) : Integer.MAX_VALUE;
        MUTANTS.removeIf(m -> lineOf(m.at) < from || lineOf(m.at) > to);
        System.setOut(new PrintStream(OutputStream.nullOutputStream()));
        ExecutorService hands = Executors.newFixedThreadPool(Runtime.getRuntime().availableProcessors());
        List<Future<String>> fates = new ArrayList<>();
        for (Mutant m : MUTANTS) {
            fates.add(hands.submit(() -> fateOf(m)));
        }
        Map<String, Integer> sums = new HashMap<>();
        for (int i = 0; i < MUTANTS.size(); i++) {
            String fate = fates.get(i).get();
            sums.merge(fate, 1, Integer::sum);
            if (fate.equals("passes")) {
                show(MUTANTS.get(i));
            }
        }
        SCREEN.println(sums);
        System.exit(0);
    }

    private static void show(Mutant m) {
        String line = source.substring(source.lastIndexOf('\n', m.at) + 1, source.indexOf('\n', m.at)).trim();
        SCREEN.println(lineOf(m.at) + ": " + source.substring(m.at, m.end) + " -> " + m.instead + "   in: " + line);
    }

    private static int lineOf(int at) {
        int line = 1;
        for (int i = 0; i < at; i++) {
            line += source.charAt(i) == '\n' ? 1 : 0;
        }
        return line;
    }

    /** Comments and texts are blanked, so that nothing in them is spoilt. */
    private static String withoutWords(String text) {
        StringBuilder b = new StringBuilder(text);
        Matcher m = Pattern.compile("/\\*.*?\\*/|//[^\n]*|\"[^\"\n]*\"", Pattern.DOTALL).matcher(text);
        while (m.find()) {
            for (int i = m.start(); i < m.end(); i++) {
                b.setCharAt(i, b.charAt(i) == '\n' ? '\n' : ' ');
            }
        }
        return b.toString();
    }

    private static void gather() {
        String[][] signs = {{"<", "<=", ">"}, {"<=", "<", "=="}, {">", ">=", "<"}, {">=", ">", "=="}, {"==", "!="}, {"!=", "=="},
            {"&&", "||"}, {"||", "&&"}, {"+", "-"}, {"-", "+"}, {"*", "+"}, {"/", "*"}, {"%", "+"}, {">>>", ">>"}, {"<<", "+"},
            {"&", "|"}, {"|", "&"}, {"|=", "="}, {"&=", "="}, {"+=", "="}, {"-=", "="}};
        for (String[] sign : signs) {
            for (int i = 1; i < sign.length; i++) {
                replace("(?<=\\s)" + Pattern.quote(sign[0]) + "(?=\\s)", sign[i]);
            }
        }
        replace("\\btrue\\b", "false");
        replace("\\bfalse\\b", "true");
        replace("(?<=[( ])!(?=[a-z])", "");
        replace("\\bMath\\.max\\b", "Math.min");
        replace("\\bMath\\.min\\b", "Math.max");
        replace("(?<=return |[?:] )NONE\\b", "0");
        replace("(?m)(?<=^ {8,40})(?!return|throw|if|for|while|case|default|final|private|break|int |long |boolean )[a-zA-Z][^{}\n]*;$", ";");
        Matcher number = Pattern.compile("(?<![\\w.])\\d+(?![\\w.])").matcher(bare);
        while (number.find()) {
            int v = Integer.parseInt(number.group());
            MUTANTS.add(new Mutant(number.start(), number.end(), "" + (v + 1)));
            MUTANTS.add(new Mutant(number.start(), number.end(), "" + (v - 1)));
        }
        Matcher condition = Pattern.compile("if \\(").matcher(bare);
        while (condition.find()) {
            String tail = source.substring(condition.end(), closing(condition.end()));
            MUTANTS.add(new Mutant(condition.start(), condition.end(), "if (false && (", tail));
            MUTANTS.add(new Mutant(condition.start(), condition.end(), "if (true || (", tail));
        }
    }

    private static void replace(String what, String instead) {
        Matcher m = Pattern.compile(what).matcher(bare);
        while (m.find()) {
            MUTANTS.add(new Mutant(m.start(), m.end(), instead));
        }
    }

    private static int closing(int from) {
        int open = 1;
        int at = from;
        while (open > 0) {
            open += bare.charAt(at) == '(' ? 1 : bare.charAt(at) == ')' ? -1 : 0;
            at++;
        }
        return at;
    }

    private static String spoilt(Mutant m) {
        int behind = m.end + m.tail.length();
        String closed = m.tail.isEmpty() ? "" : m.tail + ")";
        return source.substring(0, m.at) + m.instead + closed + source.substring(behind);
    }

    private static String fateOf(Mutant m) throws IOException, InterruptedException {
        Map<String, byte[]> classes = new HashMap<>(TEST_CLASSES);
        if (!compile(List.of(new Text("BalloonsMoor", spoilt(m))), classes)) {
            return "does not compile";
        }
        String[] fate = {"does not end"};
        Thread run = new Thread(() -> fate[0] = passes(classes) ? "passes" : "is found");
        run.setDaemon(true);
        run.start();
        run.join(PATIENCE);
        return fate[0];
    }

    private static boolean passes(Map<String, byte[]> classes) {
        try {
            ClassLoader loader = new Loader(classes);
            Field broken = loader.loadClass("Sentences").getDeclaredField("broken");
            broken.setAccessible(true);
            for (String suite : suites) {
                Method run = loader.loadClass(suite).getDeclaredMethod("run");
                run.setAccessible(true);
                run.invoke(null);
                if (broken.getInt(null) > 0) {
                    return false;
                }
            }
            return true;
        } catch (ReflectiveOperationException | LinkageError e) {
            return false;
        }
    }

    private static List<String> suitesOf(String boundsTest) {
        List<String> names = new ArrayList<>();
        Matcher m = Pattern.compile("(\\w+)\\.run\\(\\);").matcher(boundsTest);
        while (m.find()) {
            names.add(m.group(1));
        }
        return names;
    }

    private static void compileTests() throws IOException {
        List<Text> texts = new ArrayList<>();
        texts.add(new Text("BalloonsMoor", source));
        try (DirectoryStream<Path> files = Files.newDirectoryStream(TESTS, "{Bounds,Desk,Sentences}*.java")) {
            for (Path file : files) {
                texts.add(new Text(file.getFileName().toString().replace(".java", ""), Files.readString(file)));
            }
        }
        if (!compile(texts, TEST_CLASSES)) {
            throw new IllegalStateException("the tests do not compile");
        }
    }

    private static boolean compile(List<Text> texts, Map<String, byte[]> classes) throws IOException {
        try (Store store = new Store(COMPILER.getStandardFileManager(null, null, null))) {
            boolean fine = COMPILER.getTask(new StringWriter(), store, d -> { }, List.of("-proc:none"), null, texts).call();
            store.written.forEach((name, bytes) -> classes.put(name, bytes.toByteArray()));
            return fine;
        }
    }

    private static final class Text extends SimpleJavaFileObject {
        private final String text;

        Text(String name, String text) {
            super(URI.create("string:///" + name + ".java"), Kind.SOURCE);
            this.text = text;
        }

        @Override
        public CharSequence getCharContent(boolean ignoreErrors) {
            return text;
        }
    }

    private static final class Store extends ForwardingJavaFileManager<JavaFileManager> {
        private final Map<String, ByteArrayOutputStream> written = new HashMap<>();

        Store(JavaFileManager files) {
            super(files);
        }

        @Override
        public JavaFileObject getJavaFileForOutput(Location place, String name, JavaFileObject.Kind kind, FileObject near) {
            return new SimpleJavaFileObject(URI.create("mem:///" + name + ".class"), kind) {
                @Override
                public OutputStream openOutputStream() {
                    return written.computeIfAbsent(name, n -> new ByteArrayOutputStream());
                }
            };
        }
    }

    private static final class Loader extends ClassLoader {
        private final Map<String, byte[]> classes;

        Loader(Map<String, byte[]> classes) {
            super(ClassLoader.getPlatformClassLoader());
            this.classes = classes;
        }

        @Override
        protected Class<?> findClass(String name) throws ClassNotFoundException {
            byte[] bytes = classes.get(name);
            if (bytes == null) {
                throw new ClassNotFoundException(name);
            }
            return defineClass(name, bytes, 0, bytes.length);
        }
    }
}
