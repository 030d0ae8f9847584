import java.lang.reflect.Method;
import java.lang.reflect.Modifier;
import java.util.Arrays;
import java.util.Comparator;
import java.util.List;
import java.util.Random;

/** Runs of calls, always the same ones, on the program and on the Model: all answers must be alike. */
final class RandomRunsTest {
    private static final int RUNS = 1500, MOST_CALLS = 512;
    private static final int[] WILD = {Integer.MIN_VALUE, Integer.MIN_VALUE + 1, -101, -2, -1, 9, 10, 30, 31, 100, 101,
        1 << 16, Integer.MAX_VALUE - 1, Integer.MAX_VALUE};
    private static final List<String> RARE = List.of("land", "sheet", "lose", "trace");

    private final Random random;
    private final Method[] calls;
    private final int run;
    private SeenNumbers program;
    private Model model;
    private int made;

    private RandomRunsTest(int run, Method[] calls) {
        this.run = run;
        this.calls = calls;
        random = new Random(1000L + run);
    }

    public static void main(String[] args) throws ReflectiveOperationException {
        Method[] calls = Arrays.stream(SeenNumbers.class.getDeclaredMethods())
            .filter(m -> Modifier.isPublic(m.getModifiers()))
            .sorted(Comparator.comparing(Method::getName)).toArray(Method[]::new);
        for (int run = 0; run < RUNS; run++) {
            new RandomRunsTest(run, calls).go();
        }
        Due.end(RandomRunsTest.class);
    }

    private void go() throws ReflectiveOperationException {
        program = new SeenNumbers();
        model = new Model();
        if (run % 10 != 0) {
            takeLand();
        }
        while (made < MOST_CALLS) {
            Method call = calls[random.nextInt(calls.length)];
            boolean rare = RARE.contains(call.getName()) && random.nextInt(4) != 0;
            if (!rare) {
                make(call, someArguments(call));
            }
            if (random.nextInt(100) == 0 && made < MOST_CALLS - 150) {
                takeLand();
            }
            if (random.nextInt(20) == 0 && made < MOST_CALLS - 20) {
                readWhatIs();
            }
        }
    }

    private Method named(String name) {
        return Arrays.stream(calls).filter(m -> m.getName().equals(name)).findFirst().orElseThrow();
    }

    private long make(Method call, Object... arguments) throws ReflectiveOperationException {
        made++;
        long got = ((Number) call.invoke(program, arguments)).longValue();
        Method other = Model.class.getMethod(call.getName(), call.getParameterTypes());
        long want = ((Number) other.invoke(model, arguments)).longValue();
        Due.due("run " + run + " call " + made + ": " + call.getName() + Arrays.toString(arguments), got, want);
        return want;
    }

    private Object[] someArguments(Method call) {
        Object[] arguments = new Object[call.getParameterCount()];
        for (int i = 0; i < arguments.length; i++) {
            boolean truth = call.getParameterTypes()[i] == boolean.class;
            arguments[i] = truth ? (Object) random.nextBoolean() : (Object) someNumber();
        }
        return arguments;
    }

    private int someNumber() {
        int sort = random.nextInt(20);
        if (sort == 0) {
            return WILD[random.nextInt(WILD.length)];
        }
        return random.nextInt(sort < 10 ? 3 : sort < 17 ? 9 : 32);
    }

    /** Readings that are so in some fog of some trees, as guessed ones seldom are. */
    private void readWhatIs() throws ReflectiveOperationException {
        int houses = (int) make(named("many"), 2);
        if (houses == 0) {
            return;
        }
        make(named("back"), Math.min(2, model.many(4)));
        for (int k = 0; k < 3; k++) {
            int h = random.nextInt(houses);
            make(named("reading"), h, model.many(5), model.number(h));
        }
        make(named("times"), random.nextInt(31), 1 + random.nextInt(9), random.nextInt(2));
        make(named("fogs"));
        make(named("stood"), 0);
        make(named("stood"), 1);
    }

    private void takeLand() throws ReflectiveOperationException {
        String text = someText();
        int lane = random.nextInt(3);
        int sheet = random.nextInt(4);
        int from = random.nextInt(10);
        make(named("sheet"), sheet, lane, text.length() + from + random.nextInt(3));
        for (int i = 0; i < text.length(); i++) {
            make(named("put"), sheet, from + i, (int) text.charAt(i));
        }
        make(named("land"), sheet, lane, from, text.length());
    }

    private String someText() {
        int high = 1 + random.nextInt(5);
        int wide = 2 + random.nextInt(5);
        int rough = 1 + random.nextInt(random.nextBoolean() ? 3 : 10);
        StringBuilder text = new StringBuilder("n").append(high).append(wide);
        int houses = 0;
        int trees = 0;
        int most = random.nextInt(8) == 0 ? 9 : 8;
        for (int c = 0; c < high * wide; c++) {
            text.append(c % wide == 0 ? ";" : "").append(random.nextInt(rough));
            int sort = random.nextInt(3);
            if (sort == 0 && houses < most) {
                houses++;
                text.append("hcr".charAt(random.nextInt(3))).append(1 + random.nextInt(9));
            } else if (sort == 1 && trees < most) {
                trees++;
                text.append('t').append(1 + random.nextInt(4));
            } else {
                text.append('.');
            }
        }
        if (random.nextInt(6) == 0) {
            text.setCharAt(random.nextInt(text.length()), "n0179;.hcrtx".charAt(random.nextInt(12)));
        }
        return text.toString();
    }
}
