/** Promises 19 to 25: what is tried from now, and changes nothing. */
public final class TriedTest {
    private static final int OUTSIDE = LeftCoaches.OUTSIDE, UNKNOWN = LeftCoaches.UNKNOWN, NONE = LeftCoaches.NONE;
    private static final Check check = new Check("TriedTest");

    public static void main(String[] args) {
        left();
        behind();
        comes();
        leastWait();
        lights();
        scheme();
        clear();
        nothingChanges();
        check.end();
    }

    private static void left() {
        check.promise(19);
        LeftCoaches x = Check.of("l3 0;c0 1 6;c0 1 6;p0 0 7 2 0;p0 0 9 2 0;p3 0 18 2 0;p0 0 6 2 0;");
        check.due("left(0, 0)", x.left(0, 0), 7);
        check.due("left(0, 1)", x.left(0, 1), 1);
        check.due("left(1, 0)", x.left(1, 0), 0);
        check.due("left(1, 1)", x.left(1, 1), NONE);
        x.horn(0);
        check.due("left(0, 0) then", x.left(0, 0), 0);
        check.due("left(0, 1) as now", x.left(0, 1), 1);
        check.due("left(2, 0)", x.left(2, 0), UNKNOWN);
        check.due("left(-1, 2)", x.left(-1, 2), UNKNOWN);
        check.due("left(0, 2)", x.left(0, 2), OUTSIDE);
        check.due("left(0, -1)", x.left(0, -1), OUTSIDE);
    }

    private static void behind() {
        check.promise(20);
        LeftCoaches x = Check.of("l5 0;c0 1 6;p0 0 1 3 0;p0 0 7 2 0;");
        int[][] where = {{0, 1, 2, 3, 3}, {0, 0, 0, 0, 0}};
        int[][] pence = {{0, -1, -2, -3, -3}, {0, 1, 2, 3, 3}};
        for (int p = 0; p < 2; p++) {
            for (int n = 0; n < 5; n++) {
                check.due("where of " + p, x.behind(p, n, 0), where[p][n]);
                check.due("owns of " + p, x.behind(p, n, 1), p == 1 && n > 0 ? 1 : 0);
                check.due("pence of " + p, x.behind(p, n, 2), 100000 + pence[p][n]);
            }
        }
        check.due("behind(0, 60, 0)", x.behind(0, 60, 0), 3);
        check.due("behind(0, 61, 0)", x.behind(0, 61, 0), OUTSIDE);
        check.due("behind(0, -1, 0)", x.behind(0, -1, 0), OUTSIDE);
        check.due("behind(0, 0, 3)", x.behind(0, 0, 3), OUTSIDE);
        check.due("behind(0, 0, -1)", x.behind(0, 0, -1), OUTSIDE);
        check.due("behind(2, 61, 0)", x.behind(2, 61, 0), UNKNOWN);
        check.due("behind(-1, 0, 0)", x.behind(-1, 0, 0), UNKNOWN);
        LeftCoaches y = Check.of("l5 0;c2 1 6;c2 0 6;p0 2 0 1 0;");
        int[] far = {2, 3, 4, 3, 2, 1, 1};
        for (int n = 0; n < far.length; n++) {
            check.due("where in a coach", y.behind(0, n, 0), far[n]);
        }
    }

    private static void comes() {
        check.promise(21);
        LeftCoaches x = Check.of("l7 0;c6 1 6;p0 6 1 0 0;p0 3 1 3 0;p0 6 9 5 0;p0 2 3 6 0;p0 5 0 6 0;");
        check.due("comes(0)", x.comes(0), 6);
        check.due("comes(1): it is there", x.comes(1), 0);
        check.due("comes(2): left", x.comes(2), NONE);
        check.due("comes(3): down, and up again", x.comes(3), 12);
        check.due("comes(4)", x.comes(4), 12);
        check.due("comes(5)", x.comes(5), UNKNOWN);
        check.due("comes(-1)", x.comes(-1), UNKNOWN);
        x.horn(0);
        x.walk(1, false);
        x.walk(1, true);
        check.due("comes(1)", x.comes(1), 0);
        x.rounds(3);
        check.due("1 is in a coach", x.passenger(1, 2), 0);
        check.due("comes(1): not there in the coach", x.comes(1), 5);
    }

    private static void leastWait() {
        check.promise(22);
        LeftCoaches x = Check.of("l3 0;c0 1 6;c1 1 0;p1 0 30 2 0;p0 0 9 2 0;p0 1 30 2 0;");
        check.due("leastWait(0)", x.leastWait(0), 39);
        check.due("leastWait(1): nobody", x.leastWait(1), 0);
        check.due("leastWait(2)", x.leastWait(2), UNKNOWN);
        check.due("leastWait(-1)", x.leastWait(-1), UNKNOWN);
        x.waits(0, 39);
        check.due("left(0, 0)", x.left(0, 0), 0);
        x.waits(0, 38);
        check.due("left(0, 0)", x.left(0, 0), 1);
        x.light(1);
        check.due("leastWait(0) by LANTERNS", x.leastWait(0), 34);
    }

    private static void lights() {
        check.promise(23);
        LeftCoaches x = Check.of("l4 8;c0 1 6;c3 0 6;p0 0 8 3 0;p0 3 7 0 1;p0 2 11 3 0;p0 1 6 3 0;");
        check.due("lights(1)", x.lights(1), 9);
        check.due("lights(2)", x.lights(2), 9);
        check.due("lights(3)", x.lights(3), 13);
        check.due("lights(20)", x.lights(20), 13);
        check.due("LANTERNS stay", x.told(1), 8);
        x.slow(2, 12);
        check.due("lights(2)", x.lights(2), 9);
        check.due("lights(3): by none", x.lights(3), NONE);
        check.due("lights(0)", x.lights(0), OUTSIDE);
        check.due("lights(21)", x.lights(21), OUTSIDE);
        check.due("no coach", Check.of("l4 15;p0 0 30 0 9;").lights(20), 0);
        check.due("lights(1) without a line", new LeftCoaches().lights(1), LeftCoaches.NOT);
        check.due("lights(0) without a line", new LeftCoaches().lights(0), OUTSIDE);
    }

    private static void scheme() {
        check.promise(24);
        LeftCoaches x = Check.of("l4 0;c0 1 6;p0 0 3 3 0;p0 0 10 3 0;");
        check.due("scheme(0, 1, 0): slower than the other", x.scheme(0, 1, 0), 10);
        check.due("scheme(0, 1, 1)", x.scheme(0, 1, 1), 1);
        check.due("scheme(1, 1, 0): most pence with the other in it", x.scheme(1, 1, 0), 7);
        check.due("scheme(1, 1, 1)", x.scheme(1, 1, 1), 1);
        check.due("SLOW stays", x.passenger(0, 3), 3);
        x.book(0, NONE);
        check.due("scheme(0, 20, 0): nothing to own", x.scheme(0, 20, 0), 0);
        check.due("scheme(0, 20, 1)", x.scheme(0, 20, 1), 0);
        check.due("scheme(1, 1, 0): alone", x.scheme(1, 1, 0), 7);
        x.waits(0, 30);
        check.due("scheme(1, 1, 0): it waits too long", x.scheme(1, 1, 0), 0);
        x.waits(0, 29);
        check.due("scheme(1, 1, 0): just slow enough", x.scheme(1, 1, 0), 30);
        check.due("scheme(1, 0, 0)", x.scheme(1, 0, 0), OUTSIDE);
        check.due("scheme(1, 21, 0)", x.scheme(1, 21, 0), OUTSIDE);
        check.due("scheme(1, 1, 2)", x.scheme(1, 1, 2), OUTSIDE);
        check.due("scheme(1, 1, -1)", x.scheme(1, 1, -1), OUTSIDE);
        check.due("scheme(2, 0, 0)", x.scheme(2, 0, 0), UNKNOWN);
        check.due("scheme(-1, 1, 0)", x.scheme(-1, 1, 0), UNKNOWN);
        x = Check.of("l4 0;c0 1 6;p0 0 3 3 0;p1 0 30 3 0;");
        check.due("scheme(0, 1, 0): left is better than to pay", x.scheme(0, 1, 0), 7);
        check.due("scheme(0, 1, 1)", x.scheme(0, 1, 1), 0);
        LeftCoaches y = Check.of("l4 0;c0 1 2;p0 0 9 3 0;p0 0 1 3 9;p0 1 4 3 0;");
        y.horn(0);
        y.book(1, 0);
        check.due("1 would pay in it", y.scheme(2, 4, 0), 3);
        check.due("how many", y.scheme(2, 4, 1), 1);
    }

    private static void clear() {
        check.promise(25);
        LeftCoaches x = new LeftCoaches();
        check.due("clear(0, 0)", x.clear(0, 0), 1000000000);
        check.due("clear(1, 0)", x.clear(1, 0), 0);
        check.due("clear(60, 100)", x.clear(60, 100), 1000000000);
        check.due("clear(5, 33): cut each time", x.clear(5, 33), 3913539);
        check.due("clear(6, 99)", x.clear(6, 99), 941480148);
        long odds = 1000000000;
        for (int n = 0; n <= 60; n++) {
            check.due("clear(" + n + ", 77)", x.clear(n, 77), odds);
            odds = (odds * 77 - odds * 77 % 100) / 100;
        }
        check.due("clear(-1, 50)", x.clear(-1, 50), OUTSIDE);
        check.due("clear(61, 50)", x.clear(61, 50), OUTSIDE);
        check.due("clear(1, -1)", x.clear(1, -1), OUTSIDE);
        check.due("clear(1, 101)", x.clear(1, 101), OUTSIDE);
    }

    private static void nothingChanges() {
        check.promise(20);
        LeftCoaches x = Check.of("l4 5;c0 1 6;c3 0 6;p0 0 8 3 0;p1 3 7 0 1;p2 2 11 3 0;p3 1 6 3 0;");
        x.rounds(2);
        String ahead = Edges.all(x);
        x.left(0, 0);
        x.behind(0, 60, 2);
        x.comes(1);
        x.leastWait(1);
        x.lights(20);
        x.scheme(2, 20, 0);
        check.due("all is as it was", ahead.equals(Edges.all(x)) ? 1 : 0, 1);
    }
}
