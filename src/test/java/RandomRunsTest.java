import java.lang.reflect.InvocationTargetException;
import java.lang.reflect.Method;
import java.util.ArrayDeque;
import java.util.Arrays;
import java.util.Deque;
import java.util.HashMap;
import java.util.Map;
import java.util.Random;

/** Runs of 512 calls by a fixed seed: the class answers as the model does, and never throws. */
public final class RandomRunsTest {
    private static final int RUNS = 400, CALLS = 512;
    private static final long[] WILD = {-1, -2, Integer.MIN_VALUE, Integer.MAX_VALUE, Integer.MAX_VALUE - 3L, 1000};

    /** Each call's name, then least and most of each argument as the document tells. */
    private static final Object[][] CALLS_TOLD = {
        {"sleeper", 0, 3, 0, 60}, {"thing", 0, 4, 0, 9, 1, 9, 0, 3}, {"of", 0, 4, 0, 4}, {"gift", 0, 7, 0, 5},
        {"room", 0, 3, 0, 2}, {"bed", 0, 4, 0, 3}, {"type", 32, 126}, {"house"}, {"count", 0, 8},
        {"nights", 1, 40}, {"move", 0, 7, 0, 3}, {"pass", 0, 7, 0, 9}, {"back", 0, 7}, {"drift", 1, 40},
        {"undo"}, {"undo"}, {"undo"}, {"seed", 0, Integer.MAX_VALUE}, {"ahead", 0, 7, 0, 60},
        {"loudAhead", 0, 3, 0, 60}, {"sleeps", 0, 4, 0, 60}, {"peace"}, {"best", 0, 7, 1, 40, 0, 1},
        {"bestBed", 0, 4, 1, 40, 0, 1}, {"change", 1, 40, 0, 1}, {"backs", 1, 40, 0, 1},
        {"luck", 0, 4, 0, 10, 0, 1}, {"thanked", 0, 9}, {"image"}, {"restore"},
        {"heard", 0, 7, 0, 3, 0, 3, 0, 23, 1, 8, 0, 1}, {"film", 0, 7, 1, 24, 0, 3, 0, 3, 0, 8},
        {"sheet", 0, 3, 0, 3, 0, 24}, {"drop", 0, 3}, {"item", 0, 3, 0, 3, 0, 23, -128, 127},
        {"copy", 0, 3, 0, 23, 0, 3, 0, 23, 0, 12}
    };

    private static final Due DUE = new Due();
    private static final Map<String, Method> OURS = new HashMap<>(), MODELS = new HashMap<>();
    private final Random random;
    private final ThankingGifts x = new ThankingGifts();
    private final Model model = new Model();
    private final Deque<String> calls = new ArrayDeque<>();
    private int made;

    private RandomRunsTest(long seed) {
        random = new Random(seed);
    }

    public static void main(String[] args) {
        for (Method method : ThankingGifts.class.getDeclaredMethods()) {
            OURS.put(method.getName(), method);
        }
        for (Method method : Model.class.getDeclaredMethods()) {
            MODELS.put(method.getName(), method);
        }
        for (int run = 0; run < RUNS && DUE.allWell(); run++) {
            new RandomRunsTest(run).run();
        }
        DUE.close("RandomRunsTest");
    }

    private void run() {
        boolean quiet = random.nextInt(4) == 0;
        while (made < CALLS && DUE.allWell()) {
            int choice = random.nextInt(40);
            if (choice == 0 || made == 0 && random.nextBoolean()) {
                typeHouse();
            } else if (choice <= 2) {
                hearFilm();
            } else if (quiet && choice < 10) {
                both("nights", 40);
            } else {
                oneCall();
            }
            if (made % 16 == 0) {
                lookAtAll();
            }
        }
    }

    private void oneCall() {
        Object[] told = CALLS_TOLD[random.nextInt(CALLS_TOLD.length)];
        long[] arguments = new long[told.length / 2];
        for (int i = 0; i < arguments.length; i++) {
            arguments[i] = number((Integer) told[2 * i + 1], (Integer) told[2 * i + 2]);
        }
        String name = (String) told[0];
        boolean rare = name.equals("sleeper") || name.equals("thing") || name.equals("house") || name.equals("drop");
        if (!rare || random.nextInt(4) == 0 || made < 20) {
            if (name.equals("item") && random.nextInt(3) == 0) {
                arguments[3] = random.nextBoolean() ? random.nextLong() : random.nextInt(100) + (1L << 32);
            }
            both(name, arguments);
        }
    }

    private long number(long least, long most) {
        int way = random.nextInt(60);
        if (way < WILD.length) {
            return WILD[way];
        }
        return way == 10 ? least - (least > Integer.MIN_VALUE ? 1 : 0)
                : way == 11 ? most + (most < Integer.MAX_VALUE ? 1 : 0)
                : way < 16 ? least : way < 20 ? most : least + (long) (random.nextDouble() * (most - least + 1));
    }

    /** A row that tells of the very THING, now and then with one item off. */
    private void hearFilm() {
        int thing = random.nextInt(8), sheet = random.nextInt(4), lane = random.nextInt(4), n = 1 + random.nextInt(8);
        both("sheet", sheet, lane, n + random.nextInt(4));
        both("film", thing, n, sheet, lane, 0);
        if (random.nextInt(3) == 0) {
            both("item", sheet, lane, random.nextInt(n), random.nextInt(100));
        }
        both("heard", thing, sheet, lane, 0, n, 0);
        both("heard", thing, sheet, lane, 0, n, 1);
    }

    private void typeHouse() {
        StringBuilder text = new StringBuilder();
        int sleepers = 1 + random.nextInt(random.nextInt(6) == 0 ? 6 : 5);
        for (int i = 0; i < sleepers; i++) {
            text.append(i == 0 ? "" : ",").append(random.nextInt(4)).append(':');
            text.append(random.nextInt(random.nextInt(12) == 0 ? 70 : 30));
        }
        int things = random.nextInt(random.nextInt(6) == 0 ? 10 : 9);
        for (int i = 0; i < things; i++) {
            text.append(i == 0 ? ';' : ',').append("pfcth".charAt(random.nextInt(5))).append(random.nextInt(10));
            text.append(1 + random.nextInt(9)).append(random.nextInt(4));
        }
        for (int i = random.nextInt(4); i > 0; i--) {
            text.insert(random.nextInt(text.length() + 1), ' ');
        }
        if (random.nextInt(3) == 0) {
            text.setCharAt(random.nextInt(text.length()), "0123456789:;,pfcth x$.9".charAt(random.nextInt(23)));
        }
        if (random.nextInt(5) == 0) {
            text.setLength(random.nextInt(text.length()));
        }
        for (int i = 0; i < text.length(); i++) {
            both("type", text.charAt(i));
        }
        both("house");
    }

    private void lookAtAll() {
        for (int what = 0; what <= 8; what++) {
            both("count", what);
        }
        for (int thing = 0; thing < 8; thing++) {
            both("gift", thing, 4);
            both("gift", thing, 3);
        }
        for (int sleeper = 0; sleeper < 5; sleeper++) {
            both("of", sleeper, 0);
            both("of", sleeper, 2);
            both("of", sleeper, 3);
        }
    }

    /** No more than CALLS of one object: what later calls answer is free. */
    private void both(String name, long... arguments) {
        if (made >= CALLS) {
            return;
        }
        made++;
        calls.addLast(name + Arrays.toString(arguments));
        if (calls.size() > 30) {
            calls.removeFirst();
        }
        long got = answer(OURS.get(name), x, arguments);
        long want = answer(MODELS.get(name), model, arguments);
        if (got != want) {
            DUE.is("behind " + calls, got, want);
        } else {
            DUE.is(name, got, want);
        }
    }

    private static long answer(Method method, Object object, long[] arguments) {
        Object[] boxed = new Object[arguments.length];
        for (int i = 0; i < boxed.length; i++) {
            boolean isLong = method.getParameterTypes()[i] == long.class;
            if (isLong) {
                boxed[i] = arguments[i];
            } else {
                boxed[i] = (int) arguments[i];
            }
        }
        try {
            return (Integer) method.invoke(object, boxed);
        } catch (InvocationTargetException e) {
            e.getCause().printStackTrace(System.out);
            return Long.MIN_VALUE + (object instanceof Model ? 1 : 0);
        } catch (IllegalAccessException e) {
            throw new IllegalStateException(e);
        }
    }
}
