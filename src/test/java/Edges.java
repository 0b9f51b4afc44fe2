import java.lang.reflect.InvocationTargetException;
import java.lang.reflect.Method;
import java.lang.reflect.Modifier;
import java.util.TreeMap;

/**
 * Runs tests that are named after a promise (promise09_..), and holds each refusal to two things: that it is the one
 * that is due, and that nothing has changed by it.
 */
final class Edges {
    /** Makes an object and brings it to where the test begins: the same every time. */
    interface Start {
        LeftCoaches make();
    }

    interface Call {
        int on(LeftCoaches x);
    }

    interface CallWith {
        int on(LeftCoaches x, int number);
    }

    private interface Look {
        String at(LeftCoaches x);
    }

    private static final int NONE = LeftCoaches.NONE;

    /** Each look has an object of its own: some of them change it, and an object is good for 512 calls. */
    private static final Look[] LOOKS = {
        x -> all(x) + " fault " + x.fault(), Edges::book, Edges::undone, Edges::seenAndRoll, Edges::text,
        x -> x.goBack(0) + all(x) + x.seed(0), x -> x.goBack(1) + all(x) + x.seed(0),
        x -> x.seed(0) + " " + x.told(12), x -> x.drift(3) + all(x)};

    private final Check check;
    private final String name;

    Edges(String name) {
        this.name = name;
        check = new Check(name);
    }

    void due(String call, long got, long want) {
        check.due(call, got, want);
    }

    /** Runs all tests of a class; each promise from the first to the last must have one. */
    void run(Class<?> tests, int first, int last) throws IllegalAccessException {
        TreeMap<String, Method> sorted = new TreeMap<>();
        for (Method method : tests.getDeclaredMethods()) {
            if (Modifier.isStatic(method.getModifiers()) && method.getName().matches("promise\\d\\d_\\w+")) {
                sorted.put(method.getName(), method);
            }
        }
        int[] found = new int[100];
        for (Method method : sorted.values()) {
            int promise = Integer.parseInt(method.getName().substring(7, 9));
            found[promise]++;
            check.promise(promise);
            try {
                method.setAccessible(true);
                method.invoke(null);
            } catch (InvocationTargetException thrown) {
                check.due(method.getName() + " threw " + thrown.getCause(), 1, 0);
            }
        }
        for (int promise = first; promise <= last; promise++) {
            check.promise(promise);
            check.due("it has a test", found[promise] > 0 ? 1 : 0, 1);
        }
        System.out.println(name + ": " + sorted.size() + " tests");
        check.end();
    }

    /** The refusal is due, and whatever can be asked or done then goes as if the call had not been. */
    void refused(String what, int refusal, Start start, Call call) {
        for (int i = 0; i < LOOKS.length; i++) {
            LeftCoaches x = start.make();
            if (i == 0) {
                check.due(what, call.on(x), refusal);
            } else {
                call.on(x);
            }
            String got = LOOKS[i].at(x);
            String want = LOOKS[i].at(start.make());
            check.due(what + " changed something, look " + i + ": " + got + " was " + want, got.equals(want) ? 1 : 0, 1);
        }
    }

    /** Least and most are not refused; those next to them, and the farthest there are, are. */
    void within(String what, int least, int most, int refusal, Start start, CallWith call) {
        for (int number : new int[] {least, most}) {
            int answer = call.on(start.make(), number);
            check.due(what + " by " + number + " answered " + answer + ": it is refused", answer >= -1 ? 1 : 0, 1);
        }
        int[] beyond = {least - 1, most + 1, Integer.MIN_VALUE, Integer.MAX_VALUE};
        for (int number : beyond) {
            if (number < least || number > most) {
                refused(what + " by " + number, refusal, start, x -> call.on(x, number));
            }
        }
    }

    /** An answer that asks only: nothing has changed by it, whatever it was. */
    void changesNothing(String what, Start start, Call call) {
        refused(what, call.on(start.make()), start, call);
    }

    // ---- looks

    static String all(LeftCoaches x) {
        StringBuilder all = new StringBuilder();
        for (int what = 0; what <= 12; what++) {
            all.append(' ').append(x.told(what));
        }
        for (int c = 0; c < x.told(2); c++) {
            for (int what = 0; what <= 5; what++) {
                all.append(what == 0 ? " c " : " ").append(x.coach(c, what));
            }
        }
        for (int p = 0; p < x.told(3); p++) {
            for (int what = 0; what <= 8; what++) {
                all.append(what == 0 ? " p " : " ").append(x.passenger(p, what));
            }
        }
        return all.toString();
    }

    private static String book(LeftCoaches x) {
        StringBuilder all = new StringBuilder();
        for (int i = 0; i < 20; i++) {
            for (int what = 0; what <= 4; what++) {
                all.append(' ').append(x.lefts(i, what));
            }
        }
        return all.toString();
    }

    /** Back step by step, with a few things that each deed changes. */
    private static String undone(LeftCoaches x) {
        StringBuilder all = new StringBuilder();
        for (int i = 0; i <= 16; i++) {
            all.append(" u ").append(x.undo()).append(' ').append(x.told(1)).append(' ').append(x.told(5));
            all.append(' ').append(x.told(9)).append(' ').append(x.coach(0, 0)).append(' ').append(x.coach(0, 2));
            for (int p = 1; p < 4; p++) {
                all.append(' ').append(x.passenger(p, 1)).append(' ').append(x.passenger(p, 3));
            }
        }
        return all + all(x);
    }

    /** What is seen and written shows by what more would do to it, up to where it is full. */
    private static String seenAndRoll(LeftCoaches x) {
        StringBuilder all = new StringBuilder();
        for (int i = 0; i < 7; i++) {
            all.append(" s ").append(x.truly(0)).append(' ').append(x.truly(1)).append(' ').append(x.truly(2));
            all.append(' ').append(x.tryNext()).append(' ').append(x.see(0, 0, 25 - i, false));
        }
        for (int i = 0; i < 16; i++) {
            all.append(" r ").append(x.judge()).append(' ').append(x.write(0, x.coach(0, 3)));
        }
        return all.append(' ').append(x.tear()).toString();
    }

    private static String text(LeftCoaches x) {
        return x.line() + " fault " + x.fault() + all(x);
    }

    // ---- where tests begin

    /**
     * Five inns. 0 is in coach 0 between the ends, 1 at the lower end, 2 and 3 within, 4 at the upper end; two were
     * left; three things are seen and three written; both images are kept; five deeds can be undone; the latest
     * line() had a fault; a whole text stands ready.
     */
    static LeftCoaches busy() {
        LeftCoaches x = Check.of("l5 9;c0 1 9;c4 0 3;c2 1 20;p0 0 9 4 0;p1 1 2 0 1;p2 2 5 0 1;p3 0 30 3 9;p0 4 4 1 1;");
        x.seed(271828);
        x.keep(0);
        x.horn(1);
        x.book(3, 0);
        x.horn(0);
        x.keep(1);
        x.seed(314159);
        see(x);
        x.write(0, 3);
        x.write(1, 4);
        x.write(2, 0);
        x.walk(1, false);
        x.walk(3, true);
        x.slow(2, 8);
        x.waits(0, 40);
        x.light(18);
        Check.feed(x, "l2 x");
        x.line();
        Check.feed(x, "l3 2;c1 0 7;p1 1 3 2 0;");
        return x;
    }

    private static void see(LeftCoaches x) {
        x.see(0, 0, 8, true);
        x.see(1, 1, 37, false);
        x.see(3, 2, 13, false);
    }

    /** No line, but all that there can be without one. */
    static LeftCoaches lineless() {
        LeftCoaches x = new LeftCoaches();
        x.seed(161803);
        x.keep(1);
        see(x);
        Check.feed(x, "l2 x");
        x.line();
        x.seed(141421);
        x.keep(0);
        Check.feed(x, "l3 2;c1 0 7;p1 1 3 2 0;");
        return x;
    }

    /** As busy(), but two more are booked on coach 0, where it is, and would be left. */
    static LeftCoaches aboutToLeave() {
        LeftCoaches x = busy();
        x.waits(0, 5);
        x.walk(1, true);
        x.book(1, 0);
        x.book(3, 0);
        return x;
    }

    /** Horns are 9001: one more than the last number at which one can be blown. */
    static LeftCoaches hornsFull() {
        LeftCoaches x = hornsAtLast();
        x.horn(3);
        return x;
    }

    static LeftCoaches hornsAtLast() {
        LeftCoaches x = Check.of("l3 2;c0 0 0;c2 1 0;c1 1 0;c1 0 9;p0 0 9 2 0;p0 1 3 0 3;");
        x.seed(577215);
        x.keep(0);
        for (int i = 0; i < 75; i++) {
            x.rounds(30);
        }
        x.write(3, 1);
        return x;
    }

    static LeftCoaches textFull() {
        LeftCoaches x = new LeftCoaches();
        String text = "l3 2;c1 0 7;p1 1 3 2 0;";
        Check.feed(x, text + " ".repeat(240 - text.length()));
        return x;
    }

    static LeftCoaches seenFull() {
        LeftCoaches x = busy();
        for (int i = 0; i < 3; i++) {
            x.see(2, i, 25 + i, false);
        }
        return x;
    }

    static LeftCoaches rollFull() {
        LeftCoaches x = busy();
        for (int i = 3; i < 15; i++) {
            x.write(i % 3, i % 2 == 0 ? NONE : 3);
        }
        return x;
    }
}
