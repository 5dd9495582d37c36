import java.lang.reflect.Constructor;
import java.lang.reflect.Field;
import java.lang.reflect.InvocationTargetException;
import java.lang.reflect.Member;
import java.lang.reflect.Method;
import java.lang.reflect.Modifier;
import java.util.Arrays;
import java.util.Set;
import java.util.TreeSet;
import java.util.stream.Collectors;

/** The public face is the document's and no more, and no call of it throws, whatever it is given. */
public final class FaceTest {
    private static final String FACE = "log 2, square 3, at 2, water 1, sheet 2, lay 3, tear 1, copy 5, fill 2, load 4,"
        + " move 3, rope 2, drop 1, told 2, is 2, all 0, mean 0, floats 1, draft 1, above 1, middle 2, place 3, leans 1,"
        + " breadth 1, holds 1, rests 0, carries 1, trim 2, room 3, upper 0, lower 0, count 1, finding 0, findings 1,"
        + " digest 0";
    private static final Set<String> LONGS = Set.of("upper", "lower", "digest");
    private static final int[] EDGES = {Integer.MIN_VALUE, -1, 0, 1, 5, 12, Integer.MAX_VALUE};

    public static void main(String[] args) throws Exception {
        methods();
        constants();
        nothingElse();
        nothingThrows();
        Due.end();
    }

    private static void methods() throws Exception {
        Set<String> due = new TreeSet<>(Arrays.asList(FACE.split(", ")));
        Set<String> there = new TreeSet<>();
        for (Method m : LogsAfloat.class.getDeclaredMethods()) {
            if (Modifier.isPublic(m.getModifiers())) {
                there.add(m.getName() + " " + m.getParameterCount());
                Class<?> answer = LONGS.contains(m.getName()) ? long.class : int.class;
                Due.yes(m + " answers another type", m.getReturnType() == answer);
                boolean ints = Arrays.stream(m.getParameterTypes()).allMatch(t -> t == int.class);
                Due.yes(m + " takes other types", ints && !Modifier.isStatic(m.getModifiers()));
            }
        }
        Due.yes("the public methods are " + there, there.equals(due));
        Due.yes("the constructor is not the one due", LogsAfloat.class.getConstructors().length == 1
            && LogsAfloat.class.getConstructors()[0].getParameterCount() == 0);
        Due.yes("the class is not final", Modifier.isFinal(LogsAfloat.class.getModifiers()));
    }

    private static void constants() throws Exception {
        Due.is(0, "BAD", LogsAfloat.BAD, -1);
        Due.is(0, "FULL", LogsAfloat.FULL, -2);
        Due.is(0, "FINDING", LogsAfloat.FINDING, -3);
        Due.is(0, "STATE", LogsAfloat.STATE, -4);
        Due.is(0, "SINKS", LogsAfloat.SINKS, -5);
        Due.is(0, "NONE", LogsAfloat.NONE, -9);
        Due.is(0, "public fields", LogsAfloat.class.getFields().length, 6);
    }

    private static void nothingElse() {
        Set<String> publics = Arrays.stream(LogsAfloat.class.getMethods()).map(Method::getName)
            .collect(Collectors.toSet());
        for (Method m : LogsAfloat.class.getDeclaredMethods()) {
            closedOrPublic(m, m.isSynthetic());
            boolean hidden = !Modifier.isPublic(m.getModifiers());
            Due.yes(m + " bears the name of a public one", !hidden || !publics.contains(m.getName()));
        }
        for (Field f : LogsAfloat.class.getDeclaredFields()) {
            closedOrPublic(f, f.isSynthetic());
            boolean isStatic = Modifier.isStatic(f.getModifiers());
            Due.yes(f + " is static and may change", !isStatic || Modifier.isFinal(f.getModifiers()));
        }
        for (Constructor<?> c : LogsAfloat.class.getDeclaredConstructors()) {
            closedOrPublic(c, c.isSynthetic());
        }
        for (Class<?> c : LogsAfloat.class.getDeclaredClasses()) {
            Due.yes(c + " is not static", Modifier.isStatic(c.getModifiers()));
            Due.yes(c + " is public", !Modifier.isPublic(c.getModifiers()));
        }
    }

    private static void closedOrPublic(Member m, boolean made) {
        int seen = m.getModifiers() & (Modifier.PUBLIC | Modifier.PRIVATE);
        Due.yes(m + " is neither public nor private", made || seen != 0);
    }

    private static void nothingThrows() throws Exception {
        for (Method m : LogsAfloat.class.getDeclaredMethods()) {
            if (Modifier.isPublic(m.getModifiers())) {
                LogsAfloat fresh = new LogsAfloat();
                LogsAfloat laden = laden();
                int many = (int) Math.pow(EDGES.length, m.getParameterCount());
                for (int i = 0; i < many; i++) {
                    Object[] given = edges(i, m.getParameterCount());
                    answers(m, fresh, given);
                    answers(m, laden, given);
                }
            }
        }
    }

    private static LogsAfloat laden() {
        LogsAfloat x = Logs.drawn(20, "1.1", "111");
        x.load(1, 3, 3, 5);
        x.load(2, 3, 3, 5);
        x.sheet(0, 12);
        x.sheet(1, 5);
        return x;
    }

    private static Object[] edges(int number, int many) {
        Object[] given = new Object[many];
        int rest = number;
        for (int i = 0; i < many; i++) {
            given[i] = EDGES[rest % EDGES.length];
            rest /= EDGES.length;
        }
        return given;
    }

    private static void answers(Method m, LogsAfloat x, Object[] given) throws Exception {
        try {
            m.invoke(x, given);
            Due.yes("", true);
        } catch (InvocationTargetException e) {
            Due.yes(m.getName() + Arrays.toString(given) + " threw " + e.getCause(), false);
        }
    }
}
