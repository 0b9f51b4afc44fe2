import java.lang.reflect.Method;
import java.util.HashMap;
import java.util.Map;
import java.util.Random;

/** Random runs of 512 calls at most, every answer against Model; each run is the same every time. */
public final class ModelTest {
    private static final int RUNS = 4000, CALLS = 512, CALLS_OF_A_LAST_LOOK = 240, CALLS_OF_A_TEXT = 150;
    private static final int[] WILD = {Integer.MIN_VALUE, Integer.MAX_VALUE, -2, 31, 32, 33, 64, 1 << 30, -1000000001};

    /** A call, how often it is drawn, and the bounds that its whole-number arguments are drawn from. */
    private static final Object[][] CALLS_AND_BOUNDS = {
        {"told", 8, -1, 13}, {"coach", 8, -1, 4, -1, 6}, {"passenger", 12, -1, 7, -1, 9}, {"lefts", 6, -1, 21, -1, 5},
        {"fault", 1}, {"horn", 10, -1, 4}, {"rounds", 4, 0, 6}, {"book", 14, -1, 7, -2, 4}, {"walk", 10, -1, 7},
        {"out", 4, -1, 7}, {"slow", 5, -1, 7, -1, 31}, {"waits", 5, -1, 4, -1, 51}, {"light", 3, -1, 128},
        {"drift", 3, 0, 31}, {"undo", 6}, {"left", 5, -1, 4, -1, 2}, {"behind", 5, -1, 7, -1, 61, -1, 3},
        {"comes", 3, -1, 7}, {"leastWait", 4, -1, 4}, {"lights", 3, 0, 21}, {"scheme", 3, -1, 7, 0, 21, -1, 2},
        {"clear", 1, -1, 61, -1, 101}, {"see", 3, -1, 4, -1, 3, -1, 41}, {"truly", 3, -1, 3}, {"tryNext", 2},
        {"write", 4, -1, 4, -2, 7}, {"tear", 1}, {"judge", 3}, {"seed", 1, -1, 100000}, {"keep", 1, -1, 2}, {"goBack", 1, -1, 2}};

    private static final Map<String, Method> ours = new HashMap<>();
    private static final Map<String, Method> models = new HashMap<>();
    private static int wrong = 0;
    private static long answers = 0;
    private static int calls = 0;

    public static void main(String[] args) throws ReflectiveOperationException {
        for (Method method : LeftCoaches.class.getDeclaredMethods()) {
            ours.put(method.getName(), method);
        }
        for (Method method : Model.class.getDeclaredMethods()) {
            models.put(method.getName(), method);
        }
        for (int run = 0; run < RUNS && wrong < 10; run++) {
            play(run);
        }
        for (int run = 0; run < 4000 && wrong < 10; run++) {
            readTexts(run);
        }
        playFull();
        System.out.println("ModelTest: " + answers + " answers compared, " + wrong + " not alike");
        if (wrong > 0) {
            System.exit(1);
        }
    }

    private static void compare(LeftCoaches x, Model y, int run, String name, Object... args) throws ReflectiveOperationException {
        Object got = ours.get(name).invoke(x, args);
        Object want = models.get(name).invoke(y, args);
        answers++;
        calls++;
        if (!got.equals(want)) {
            wrong++;
            System.out.println("ModelTest, run " + run + ": " + name + java.util.Arrays.toString(args)
                + " answered " + got + ", the model " + want);
        }
    }

    private static void tell(LeftCoaches x, Model y, int run, String text) throws ReflectiveOperationException {
        for (int i = 0; i < text.length(); i++) {
            compare(x, y, run, "feed", (int) text.charAt(i));
        }
        compare(x, y, run, "line");
        compare(x, y, run, "fault");
    }

    private static void play(int run) throws ReflectiveOperationException {
        Random random = new Random(run);
        LeftCoaches x = new LeftCoaches();
        Model y = new Model();
        calls = 0;
        int weights = 0;
        for (Object[] row : CALLS_AND_BOUNDS) {
            weights += (Integer) row[1];
        }
        if (run % 10 != 0) {
            tell(x, y, run, text(random));
        }
        int most = CALLS - CALLS_OF_A_LAST_LOOK;
        while (calls < most && wrong < 10) {
            int drawn = random.nextInt(weights);
            int k = 0;
            while (drawn >= (Integer) CALLS_AND_BOUNDS[k][1]) {
                drawn -= (Integer) CALLS_AND_BOUNDS[k][1];
                k++;
            }
            compare(x, y, run, (String) CALLS_AND_BOUNDS[k][0], arguments(CALLS_AND_BOUNDS[k], random));
            if (calls + CALLS_OF_A_TEXT < most && random.nextInt(80) == 0) {
                tell(x, y, run, random.nextBoolean() ? text(random) : spoilt(text(random), random));
            }
        }
        lookAtAll(x, y, run);
    }

    private static Object[] arguments(Object[] row, Random random) {
        Class<?>[] types = ours.get((String) row[0]).getParameterTypes();
        Object[] args = new Object[types.length];
        for (int a = 0; a < types.length; a++) {
            if (types[a] == boolean.class) {
                args[a] = random.nextBoolean();
            } else if (random.nextInt(60) == 0) {
                args[a] = WILD[random.nextInt(WILD.length)];
            } else {
                int least = (Integer) row[2 + 2 * a];
                int most = (Integer) row[3 + 2 * a];
                args[a] = least + random.nextInt(most - least + 1);
            }
        }
        return args;
    }

    private static void lookAtAll(LeftCoaches x, Model y, int run) throws ReflectiveOperationException {
        for (int what = 0; what <= 12; what++) {
            compare(x, y, run, "told", what);
        }
        for (int what = 0; what <= 5; what++) {
            for (int c = 0; c < 4; c++) {
                compare(x, y, run, "coach", c, what);
            }
        }
        for (int what = 0; what <= 8; what++) {
            for (int p = 0; p < 7; p++) {
                compare(x, y, run, "passenger", p, what);
            }
        }
        for (int what = 0; what <= 4; what++) {
            for (int i = 0; i < 21; i++) {
                compare(x, y, run, "lefts", i, what);
            }
        }
    }

    private static String text(Random random) {
        int inns = 2 + random.nextInt(6);
        int coaches = random.nextInt(12) == 0 ? 0 : 1 + random.nextInt(4);
        int people = random.nextInt(12) == 0 ? 0 : 1 + random.nextInt(7);
        // Few and quick passengers in half of the texts, so that lights and comes have answers too.
        int slowest = random.nextBoolean() ? 31 : 12;
        StringBuilder text = new StringBuilder();
        text.append('l').append(inns).append(' ').append(random.nextInt(1 << inns)).append(';');
        for (int c = 0; c < coaches; c++) {
            text.append('c').append(random.nextInt(inns)).append(' ').append(random.nextInt(2)).append(' ');
            text.append(random.nextInt(slowest)).append(';');
        }
        for (int p = 0; p < people; p++) {
            int booked = coaches == 0 || random.nextInt(4) == 0 ? 9 : random.nextInt(coaches);
            text.append('p').append(random.nextInt(4)).append(' ').append(random.nextInt(inns)).append(' ');
            text.append(random.nextInt(slowest)).append(' ').append(random.nextInt(inns)).append(' ').append(booked).append(';');
        }
        return text.toString();
    }

    /** A text with a letter or so other, more, or fewer than it should have. */
    private static String spoilt(String good, Random random) {
        StringBuilder text = new StringBuilder(good);
        String letters = "lcp; 0123456789x:/\u0000\u00e9\n";
        for (int changes = 1 + random.nextInt(2); changes > 0 && text.length() > 0; changes--) {
            int where = random.nextInt(text.length());
            char letter = letters.charAt(random.nextInt(letters.length()));
            switch (random.nextInt(5)) {
                case 0 -> text.deleteCharAt(where);
                case 1 -> text.setCharAt(where, letter);
                case 2 -> text.insert(where, letter);
                case 3 -> text.setLength(where);
                default -> text.insert(where, "   ");
            }
        }
        return text.toString();
    }

    private static void readTexts(int run) throws ReflectiveOperationException {
        Random random = new Random(-1 - run);
        LeftCoaches x = new LeftCoaches();
        Model y = new Model();
        tell(x, y, run, spoilt(text(random), random));
        tell(x, y, run, spoilt(text(random), random));
        lookAtAll(x, y, run);
    }

    /** Up to the last horn that can be blown. */
    private static void playFull() throws ReflectiveOperationException {
        LeftCoaches x = new LeftCoaches();
        Model y = new Model();
        tell(x, y, 0, "l7 21;c0 1 9;c3 1 3;c6 0 12;c4 0 20;p0 0 9 3 0;p1 2 9 6 1;p2 3 9 1 2;p3 6 30 0 3;p0 4 12 2 3;");
        for (int i = 0; i < 80; i++) {
            compare(x, y, 0, i % 3 == 0 ? "rounds" : "drift", 30 - i % 2);
        }
        compare(x, y, 0, "horn", 0);
        lookAtAll(x, y, 0);
    }
}
