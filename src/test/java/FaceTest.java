import java.lang.reflect.Constructor;
import java.lang.reflect.Field;
import java.lang.reflect.InvocationTargetException;
import java.lang.reflect.Method;
import java.lang.reflect.Modifier;
import java.util.NoSuchElementException;
import java.util.Random;
import java.util.TreeSet;

/** The face is the document's and no more, and no call throws but where the document says so. */
public final class FaceTest {
    private static final String FACE = "again(int)boolean balloon(int,int)int balloons()int berths(int)int"
        + " breaches()int cargo(int,int)int cast(int)int chance(int,int,int,int)int count(int)int day()int drifts(int,int)int"
        + " end(int)boolean fill(int,int)int hours(int)int keep(int)boolean lands(int,int,int)int launch(int)int"
        + " lay(int)int lift(int)int mark(int,int,int)int moor(int,int)int nearest(int,int)int rain(int)int"
        + " rests(int)int ring(int,int)int rises(int,int)int row(int)long rule()int sacks(int,int)int"
        + " season(int,int)int served(int)int sheet(int,int,int,int)int sign(int)int sinks(int)int storm()int"
        + " sure()int touches()int tower()int undo()int ways()int when(int,int)int winds()int wipe()int yields(int)int";
    private static final String THROWING = " ring balloon lift row ";
    private static final int[] WILD = {Integer.MIN_VALUE, Integer.MIN_VALUE + 1, -65536, -129, -100, -8, -3, -2, -1,
        0, 1, 2, 3, 4, 5, 6, 7, 8, 9, 10, 12, 31, 32, 48, 49, 60, 61, 63, 64, 99, 100, 255, 65535,
        Integer.MAX_VALUE - 1, Integer.MAX_VALUE};
    private static final String[] TEXTS = {"30;31;40;52;61;20;70;30", "", "50,1121;70,9030;40,2011",
        "60,2040;9,0010;99,9991", "21/11/33/42/51/63/72/03/13/-", "g-s*5+h*(b+1)", "(((-g/(h-3))))", "g*g*g*g*g*g",
        "l0;m00;h3;c0;s0-1;l1;m11;h12", "l2;m23;h1;l1;m12", "9", ";", "h48;h48;h48"};

    public static void main(String[] args) throws Exception {
        members();
        for (int run = 0; run < 300; run++) {
            wildRun(new Random(run));
        }
        Desk.due("NONE", BalloonsMoor.NONE, -1);
        Desk.close("FaceTest");
    }

    private static void members() {
        Class<?> type = BalloonsMoor.class;
        Desk.due("public final", type.getModifiers(), Modifier.PUBLIC | Modifier.FINAL);
        TreeSet<String> open = new TreeSet<>();
        TreeSet<String> shut = new TreeSet<>();
        for (Method m : type.getDeclaredMethods()) {
            if (Modifier.isPrivate(m.getModifiers())) {
                shut.add(m.getName());
            } else {
                open.add(described(m));
                Desk.due(m.getName() + " is public and no more", m.getModifiers(), Modifier.PUBLIC);
            }
        }
        Desk.due("the document's methods: " + open, String.join(" ", open).equals(FACE), true);
        for (Method m : type.getMethods()) {
            Desk.due("private " + m.getName(), shut.contains(m.getName()), false);
        }
        for (Field f : type.getDeclaredFields()) {
            boolean isNone = f.getName().equals("NONE");
            Desk.due(f.getName() + " is private", Modifier.isPrivate(f.getModifiers()), !isNone);
            Desk.due(f.getName() + " is final", Modifier.isFinal(f.getModifiers()), true);
        }
        Constructor<?>[] makers = type.getDeclaredConstructors();
        Desk.due("one constructor", makers.length, 1);
        Desk.due("without parameters", makers[0].getParameterCount(), 0);
        Desk.due("public", Modifier.isPublic(makers[0].getModifiers()), true);
        for (Class<?> inner : type.getDeclaredClasses()) {
            Desk.due(inner.getName() + " is static", Modifier.isStatic(inner.getModifiers()), true);
            Desk.due(inner.getName() + " is not public", Modifier.isPublic(inner.getModifiers()), false);
        }
    }

    private static String described(Method m) {
        StringBuilder b = new StringBuilder(m.getName()).append('(');
        for (int i = 0; i < m.getParameterCount(); i++) {
            b.append(i == 0 ? "" : ",").append(m.getParameterTypes()[i]);
        }
        return b.append(')').append(m.getReturnType()).toString();
    }

    private static void wildRun(Random random) throws IllegalAccessException {
        BalloonsMoor x = new BalloonsMoor();
        Method[] face = BalloonsMoor.class.getDeclaredMethods();
        Desk.tower(x, TEXTS[0]);
        Desk.balloons(x, TEXTS[2 + random.nextInt(2)]);
        for (int call = 0; call < 512; call++) {
            if (random.nextInt(12) == 0) {
                Desk.tell(x, TEXTS[random.nextInt(TEXTS.length)]);
            }
            Method m = face[random.nextInt(face.length)];
            if (Modifier.isPublic(m.getModifiers()) && !(m.getName().equals("tower") && random.nextInt(8) > 0)) {
                callWildly(x, m, random);
            }
        }
    }

    private static void callWildly(BalloonsMoor x, Method m, Random random) throws IllegalAccessException {
        Object[] args = new Object[m.getParameterCount()];
        for (int i = 0; i < args.length; i++) {
            args[i] = random.nextInt(3) > 0 ? random.nextInt(4) : WILD[random.nextInt(WILD.length)];
        }
        try {
            m.invoke(x, args);
        } catch (InvocationTargetException e) {
            boolean due = e.getCause() instanceof NoSuchElementException && THROWING.contains(" " + m.getName() + " ");
            Desk.due(m.getName() + java.util.Arrays.toString(args) + " threw " + e.getCause(), due, true);
        }
    }
}
