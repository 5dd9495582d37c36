import java.lang.reflect.Method;
import java.util.Arrays;
import java.util.Comparator;
import java.util.Random;

/** All promises: long runs of calls, answered by LogsAfloat as the slow Model answers them. */
public final class ModelTest {
    /** Nothing is promised of an object after its 512th call. */
    private static final int RUNS = 1500, MOST_CALLS = 512, CALLS_OF_AN_ASK = 4;
    private static final int[] WILD = {Integer.MIN_VALUE, Integer.MAX_VALUE, -129, -10, -9, -2, -1, 0, 1, 2, 12, 13, 24,
        25, 200, 201, 2000, 2001};

    private final Random random;
    private final int run;
    private final LogsAfloat log = new LogsAfloat();
    private final Model model = new Model();
    private int calls = 0;

    private ModelTest(int run) {
        this.run = run;
        this.random = new Random(run);
    }

    public static void main(String[] args) throws Exception {
        Method[] methods = LogsAfloat.class.getDeclaredMethods();
        methods = Arrays.stream(methods).filter(m -> java.lang.reflect.Modifier.isPublic(m.getModifiers()))
            .sorted(Comparator.comparing(Method::getName)).toArray(Method[]::new);
        for (int run = 0; run < RUNS && !Due.tooManyWrong(); run++) {
            new ModelTest(run).runCalls(methods);
        }
        Due.end();
    }

    private void runCalls(Method[] methods) throws Exception {
        build();
        if (run % 2 == 0) {
            sinkToARowsEnd();
            survey();
        }
        while (calls + CALLS_OF_AN_ASK <= MOST_CALLS && !Due.tooManyWrong()) {
            Method m = methods[random.nextInt(methods.length)];
            if (!m.getName().equals("log") || random.nextInt(8) == 0) {
                ask(m, arguments(m));
                due(36, "digest() after " + m.getName(), log.digest(), model.digest());
            }
        }
    }

    /** Drafts of whole rows are rare by chance, and what counts as the line is told apart just there. */
    private void sinkToARowsEnd() {
        int turn = random.nextInt(4);
        int rows = 1 + random.nextInt(model.count(1 - turn % 2));
        due(30, "room", log.room(turn, rows, 1), model.room(turn, rows, 1));
        long lacks = model.upper() * waterNow() - model.all();
        if (random.nextBoolean() && lacks >= 0 && lacks <= 200) {
            int b = random.nextInt(25);
            int w = model.count(0);
            int weight = (int) lacks;
            due(11, "load", log.load(0, w, b, weight), model.load(0, w, b, weight));
        }
    }

    private int waterNow() {
        int d = model.water(1);
        model.water(d);
        return d;
    }

    /** Every question of every turn, as long as the log is as it was built. */
    private void survey() throws Exception {
        ask("rests");
        for (int turn = 0; turn < 4; turn++) {
            for (String name : new String[] {"floats", "draft", "above", "leans", "breadth", "holds", "carries"}) {
                ask(name, turn);
            }
            for (int i = 0; i < 4; i++) {
                ask("middle", turn, i);
                ask("trim", turn, 1 + random.nextInt(1 << 3 * i));
                ask("room", turn, random.nextInt(25), 1 + random.nextInt(12));
                ask("place", turn, random.nextInt(model.count(turn % 2)), random.nextInt(model.count(1 - turn % 2)));
            }
        }
    }

    private void ask(String name, Object... given) throws Exception {
        Class<?>[] types = new Class<?>[given.length];
        Arrays.fill(types, int.class);
        ask(LogsAfloat.class.getDeclaredMethod(name, types), given);
    }

    private void ask(Method m, Object[] given) throws Exception {
        Method same = Model.class.getDeclaredMethod(m.getName(), m.getParameterTypes());
        String call = m.getName() + Arrays.toString(given);
        long got = ((Number) m.invoke(log, given)).longValue();
        long due = ((Number) same.invoke(model, given)).longValue();
        due(0, call, got, due);
        due(31, call + " upper()", log.upper(), model.upper());
        due(32, call + " lower()", log.lower(), model.lower());
    }

    private void due(int promise, String call, long got, long due) {
        calls++;
        Due.is(promise, "run " + run + ": " + call, got, due);
    }

    /** Most runs are of logs alike left and right, as else nearly none lies level. */
    private void build() {
        boolean small = random.nextBoolean();
        int w = 1 + random.nextInt(small ? 5 : 12);
        int h = 1 + random.nextInt(small ? 5 : 12);
        due(2, "log", log.log(w, h), model.log(w, h));
        int d = 1 + random.nextInt(20);
        due(5, "water", log.water(d), model.water(d));
        boolean even = random.nextInt(4) != 0;
        boolean shell = random.nextInt(3) != 0;
        int holes = random.nextInt(4);
        int most = random.nextInt(3) == 0 ? 20 : Math.min(20, 1 + d / 2);
        int same = random.nextBoolean() ? random.nextInt(most + 1) : -1;
        for (int y = 0; y < h; y++) {
            for (int x = 0; x < w; x++) {
                boolean rim = x == 0 || x == w - 1 || y == 0;
                boolean none = shell ? !rim || random.nextInt(12) < holes - 1 : random.nextInt(4) < holes;
                int weight = none ? LogsAfloat.NONE : same >= 0 ? same : random.nextInt(most + 1);
                if (even && x > w - 1 - x) {
                    weight = model.at(w - 1 - x, y);
                }
                if (weight != LogsAfloat.NONE) {
                    due(3, "square", log.square(x, y, weight), model.square(x, y, weight));
                }
            }
        }
        int many = random.nextInt(4);
        for (int i = 0; i < many; i++) {
            int kind = random.nextInt(3);
            int a = even ? w : random.nextInt(25);
            int b = random.nextInt(25);
            int weight = random.nextInt(1 + Math.min(200, w * h * d / 4));
            due(11, "load", log.load(kind, a, b, weight), model.load(kind, a, b, weight));
        }
    }

    private Object[] arguments(Method m) {
        Object[] given = new Object[m.getParameterCount()];
        for (int i = 0; i < given.length; i++) {
            given[i] = random.nextInt(25) == 0 ? WILD[random.nextInt(WILD.length)] : ordinary(m.getName(), i);
        }
        return given;
    }

    private int ordinary(String name, int i) {
        int w = model.count(0);
        int h = model.count(1);
        int half = random.nextInt(25);
        switch (name) {
            case "log":
                return 1 + random.nextInt(12);
            case "square":
            case "at":
                return i == 0 ? random.nextInt(w) : i == 1 ? random.nextInt(h) : random.nextInt(22) - 1;
            case "water":
                return 1 + random.nextInt(20);
            case "sheet":
                return i == 0 ? random.nextInt(6) : random.nextInt(15) - 1;
            case "lay":
                return i == 0 ? random.nextInt(6) : i == 1 ? random.nextInt(12) : random.nextInt(400) - 200;
            case "tear":
                return random.nextInt(30) % 7;
            case "copy":
                return i == 0 || i == 2 ? random.nextInt(6) : random.nextInt(7);
            case "fill":
                return i == 0 ? random.nextInt(h) : random.nextInt(6);
            case "load":
                return i == 0 ? random.nextInt(3) : i == 3 ? random.nextInt(30) : random.nextBoolean() ? w : half;
            case "move":
                return i == 0 ? random.nextInt(10) : random.nextBoolean() ? w : half;
            case "rope":
                return i == 0 ? random.nextInt(10) : random.nextInt(21);
            case "told":
            case "is":
                return i == 0 ? random.nextInt(10) : random.nextInt(5);
            case "drop":
                return random.nextInt(30);
            case "middle":
            case "place":
                return i == 0 ? random.nextInt(4) : random.nextInt(i == 1 ? w + 1 : h + 1);
            case "trim":
                return i == 0 ? random.nextInt(4) : 1 + random.nextInt(random.nextBoolean() ? 30 : 1000);
            case "room":
                return i == 0 ? random.nextInt(4) : i == 1 ? half : 1 + random.nextInt(12);
            case "count":
            case "findings":
                return random.nextInt(6);
            default:
                return random.nextInt(4);
        }
    }
}
