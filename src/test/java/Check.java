/** Counts answers that are not as due, for the tests; end() closes with exit code 1 if there was one. */
final class Check {
    private final String name;
    private int promise = 0;
    private int right = 0;
    private int wrong = 0;

    Check(String name) {
        this.name = name;
    }

    /** The promise that the next answers belong to, for the message of a wrong one. */
    void promise(int number) {
        promise = number;
    }

    void due(String call, long got, long want) {
        if (got == want) {
            right++;
        } else {
            wrong++;
            String where = promise > 0 ? name + ", promise " + promise : name;
            System.out.println(where + ": " + call + " answered " + got + ", due is " + want);
        }
    }

    void end() {
        System.out.println(name + ": " + right + " answers as due, " + wrong + " not");
        if (wrong > 0) {
            System.exit(1);
        }
    }

    static void feed(LeftCoaches x, String text) {
        for (int i = 0; i < text.length(); i++) {
            x.feed(text.charAt(i));
        }
    }

    static LeftCoaches of(String text) {
        LeftCoaches x = new LeftCoaches();
        feed(x, text);
        int answer = x.line();
        if (answer < 0) {
            throw new IllegalStateException(text + " has a fault: " + answer + " at " + x.fault());
        }
        return x;
    }
}
