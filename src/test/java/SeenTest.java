/** Promises 26 to 34: what is seen, the roll, draws and images. */
public final class SeenTest {
    private static final int OUTSIDE = LeftCoaches.OUTSIDE, UNKNOWN = LeftCoaches.UNKNOWN, NONE = LeftCoaches.NONE;
    private static final int NOT = LeftCoaches.NOT, FULL = LeftCoaches.FULL;
    private static final Check check = new Check("SeenTest");

    public static void main(String[] args) {
        see();
        truly();
        tryNext();
        write();
        tear();
        judge();
        seed();
        keep();
        goBack();
        check.end();
    }

    private static void see() {
        check.promise(26);
        LeftCoaches x = new LeftCoaches();
        check.due("see k -1", x.see(-1, 0, 0, true), OUTSIDE);
        check.due("see k 4", x.see(4, 0, 0, true), OUTSIDE);
        check.due("see r -1", x.see(0, -1, 0, true), OUTSIDE);
        check.due("see r 3", x.see(0, 3, 0, true), OUTSIDE);
        check.due("see w -1", x.see(0, 0, -1, true), OUTSIDE);
        check.due("see w 41", x.see(0, 0, 41, true), OUTSIDE);
        for (int i = 1; i <= 6; i++) {
            check.due("see", x.see(3, 2, 40, false), i);
        }
        check.due("see a seventh", x.see(0, 0, 0, true), FULL);
        check.due("see a wrong seventh", x.see(4, 0, 0, true), OUTSIDE);
        check.due("SEEN", x.told(10), 6);
    }

    private static void trulyIs(LeftCoaches x, int many, int least, int greatest) {
        check.due("truly(0)", x.truly(0), many);
        check.due("truly(1)", x.truly(1), least);
        check.due("truly(2)", x.truly(2), greatest);
    }

    private static LeftCoaches seen(int k, int r, int w, boolean left) {
        LeftCoaches x = new LeftCoaches();
        x.see(k, r, w, left);
        return x;
    }

    private static void truly() {
        check.promise(27);
        trulyIs(new LeftCoaches(), 31, 0, 30);
        trulyIs(seen(0, 0, 10, true), 20, 11, 30);
        trulyIs(seen(0, 2, 10, false), 11, 0, 10);
        trulyIs(seen(1, 0, 10, true), 29, 2, 30);
        trulyIs(seen(1, 1, 8, false), 0, NONE, NONE);
        trulyIs(seen(1, 1, 39, true), 0, NONE, NONE);
        trulyIs(seen(1, 1, 38, true), 1, 30, 30);
        trulyIs(seen(2, 0, 10, false), 11, 0, 10);
        trulyIs(seen(2, 1, 10, false), 10, 0, 9);
        trulyIs(seen(2, 2, 10, true), 22, 9, 30);
        trulyIs(seen(3, 0, 10, true), 9, 22, 30);
        trulyIs(seen(3, 0, 0, false), 2, 0, 1);
        LeftCoaches x = seen(0, 0, 10, true);
        x.see(0, 0, 20, false);
        trulyIs(x, 10, 11, 20);
        x.see(0, 0, 10, false);
        trulyIs(x, 0, NONE, NONE);
        check.due("truly(3)", x.truly(3), OUTSIDE);
        check.due("truly(-1)", x.truly(-1), OUTSIDE);
    }

    private static void tryNext() {
        check.promise(28);
        check.due("of 0 .. 30", new LeftCoaches().tryNext(), 14);
        check.due("of 11 .. 30", seen(0, 0, 10, true).tryNext(), 20);
        check.due("of 30", seen(1, 0, 38, true).tryNext(), NONE);
        check.due("of none", seen(0, 0, 30, true).tryNext(), NONE);
        check.due("of 29, 30", seen(0, 0, 28, true).tryNext(), 29);
        check.due("of 0, 1", seen(3, 0, 0, false).tryNext(), 0);
        check.due("of 28 .. 30", seen(0, 0, 27, true).tryNext(), 28);
    }

    private static void write() {
        check.promise(29);
        LeftCoaches x = Check.of("l2 0;c0 1 0;p0 0 0 0 9;");
        check.due("write(1, 0)", x.write(1, 0), UNKNOWN);
        check.due("write(-1, 0)", x.write(-1, 0), UNKNOWN);
        check.due("write(0, 1)", x.write(0, 1), UNKNOWN);
        check.due("write(0, -2)", x.write(0, -2), UNKNOWN);
        for (int i = 1; i <= 15; i++) {
            check.due("write", x.write(0, i % 2 == 0 ? 0 : NONE), i);
        }
        check.due("write a sixteenth", x.write(0, 0), FULL);
        check.due("write a wrong sixteenth", x.write(0, 1), UNKNOWN);
        check.due("THE ROLL", x.told(11), 15);
        check.due("write without a line", new LeftCoaches().write(0, NONE), UNKNOWN);
    }

    private static void tear() {
        check.promise(30);
        LeftCoaches x = Check.of("l2 0;c0 1 0;p0 0 0 0 9;");
        check.due("tear()", x.tear(), 0);
        x.write(0, 0);
        x.write(0, 0);
        x.see(0, 0, 30, true);
        check.due("tear()", x.tear(), 3);
        check.due("SEEN", x.told(10), 0);
        check.due("THE ROLL", x.told(11), 0);
        check.due("truly(0)", x.truly(0), 31);
        check.due("judge()", x.judge(), NONE);
        check.due("tear()", x.tear(), 0);
    }

    private static void judge() {
        check.promise(31);
        LeftCoaches x = Check.of("l2 0;c0 1 0;c0 1 0;p0 0 9 0 0;p0 0 9 0 1;");
        check.due("judge()", x.judge(), NONE);
        x.write(0, NONE);
        x.write(1, NONE);
        check.due("judge()", x.judge(), NONE);
        x.write(1, 1);
        x.write(0, 1);
        check.due("judge()", x.judge(), 2);
        x.horn(1);
        check.due("judge()", x.judge(), 1);
        x.tear();
        x.write(1, 1);
        check.due("judge()", x.judge(), NONE);
        x.write(1, NONE);
        check.due("judge()", x.judge(), 1);
        x.undo();
        check.due("judge()", x.judge(), 0);
    }

    private static void seed() {
        check.promise(32);
        LeftCoaches x = new LeftCoaches();
        check.due("seed(2147483647)", x.seed(2147483647), 0);
        check.due("seed(-1)", x.seed(-1), OUTSIDE);
        check.due("seed(1 << 31)", x.seed(1 << 31), OUTSIDE);
        check.due("seed(5)", x.seed(5), 2147483647);
        check.due("seed(0)", x.seed(0), 5);
        check.due("seed(0)", x.seed(0), 0);
    }

    private static void keep() {
        check.promise(33);
        LeftCoaches x = Check.of("l2 0;c0 1 0;p0 0 9 0 0;");
        check.due("keep(-1)", x.keep(-1), UNKNOWN);
        check.due("keep(2)", x.keep(2), UNKNOWN);
        x.slow(0, 5);
        x.keep(2);
        check.due("can be undone", x.told(12), 1);
        check.due("keep(0)", x.keep(0), 1);
        check.due("can be undone", x.told(12), 0);
        check.due("undo()", x.undo(), NOT);
        check.due("keep(1) without a line", new LeftCoaches().keep(1), 1);
    }

    /** Three rows of the book of lefts, with all that stands in them. */
    private static void goBackToTheBook() {
        LeftCoaches x = Check.of("l3 0;c1 1 0;c2 0 0;p0 0 0 0 9;p0 1 9 0 0;p0 2 8 0 1;");
        x.horn(0);
        x.horn(1);
        x.keep(1);
        x.book(1, 1);
        x.horn(1);
        check.due("how many", x.told(9), 3);
        x.goBack(1);
        int[][] want = {{1, 1, 2, 2, NONE}, {0, 0, 1, 1, NONE}, {NONE, NONE, NONE, NONE, NONE}};
        for (int i = 0; i < want.length; i++) {
            for (int what = 0; what < 5; what++) {
                check.due("lefts(" + i + ", " + what + ")", x.lefts(i, what), want[i][what]);
            }
        }
    }

    private static void goBack() {
        check.promise(34);
        goBackToTheBook();
        LeftCoaches x = Check.of("l3 1;c0 1 0;p0 0 9 0 0;p0 0 5 1 0;");
        check.due("goBack(0)", x.goBack(0), NOT);
        check.due("goBack(2)", x.goBack(2), UNKNOWN);
        check.due("goBack(-1)", x.goBack(-1), UNKNOWN);
        x.seed(3);
        x.keep(0);
        check.due("horn(0)", x.horn(0), 1);
        x.seed(4);
        x.waits(0, 9);
        x.light(0);
        x.keep(1);
        x.see(0, 0, 0, true);
        x.write(0, 0);
        x.slow(0, 1);
        check.due("goBack(0)", x.goBack(0), 1);
        check.due("can be undone", x.told(12), 0);
        check.due("THE SEED", x.seed(9), 3);
        int[] first = {3, 1, 1, 2, 0, 0, 0, 0, NONE, 0, 1, 1, 0};
        for (int what = 0; what < first.length; what++) {
            check.due("told(" + what + ")", x.told(what), first[what]);
        }
        check.due("WAIT", x.coach(0, 2), 0);
        check.due("INN", x.coach(0, 0), 0);
        check.due("BOOKED", x.coach(0, 5), 3);
        check.due("PENCE", x.passenger(1, 6), 100000);
        check.due("goBack(1)", x.goBack(1), 1);
        check.due("THE SEED", x.seed(9), 4);
        int[] second = {3, 0, 1, 2, 0, 1, 1, 1, 0, 1, 1, 1, 0};
        for (int what = 0; what < second.length; what++) {
            check.due("told(" + what + ")", x.told(what), second[what]);
        }
        check.due("WAIT", x.coach(0, 2), 9);
        check.due("SLOW", x.passenger(0, 3), 9);
        check.due("PENCE", x.passenger(1, 6), 99999);
        check.due("lefts(0, 3)", x.lefts(0, 3), 0);
        x.horn(0);
        check.due("goBack(1) again", x.goBack(1), 1);
        check.due("HORNS", x.told(5), 1);
        x.keep(0);
        check.due("goBack(0), kept anew", x.goBack(0), 1);
        check.due("HORNS", x.told(5), 1);
    }
}
