/** Promises 9 to 18: what is done, and undone. */
public final class DeedsTest {
    private static final int OUTSIDE = LeftCoaches.OUTSIDE, UNKNOWN = LeftCoaches.UNKNOWN, NONE = LeftCoaches.NONE;
    private static final int NOT = LeftCoaches.NOT, FULL = LeftCoaches.FULL;
    private static final Check check = new Check("DeedsTest");

    public static void main(String[] args) {
        hornLeavesAndTakes();
        hornPays();
        hornReadsLagsAhead();
        hornTurns();
        hornsAreFull();
        rounds();
        roundsWithoutCoaches();
        book();
        walk();
        out();
        slow();
        waits();
        light();
        drift();
        driftAlone();
        undoOfEach();
        undoKeepsSixteen();
        undoBringsLostLeftsBack();
        refusedIsNotUndone();
        check.end();
    }

    private static void hornLeavesAndTakes() {
        check.promise(9);
        LeftCoaches x = Check.of("l4 0;c1 1 6;c1 1 6;"
            + "p0 1 6 3 0;p0 1 7 3 0;p0 1 9 3 0;p0 1 9 3 0;p0 1 30 3 1;p0 0 30 3 0;p0 1 2 2 0;");
        check.due("horn(0)", x.horn(0), 14);
        check.due("INN", x.coach(0, 0), 2);
        check.due("OWNER: the greatest LAG, the least of like ones", x.coach(0, 3), 2);
        check.due("in it", x.coach(0, 4), 1);
        check.due("BOOKED: those left are no more, one elsewhere still is", x.coach(0, 5), 33);
        check.due("BOOKED on another", x.coach(1, 5), 16);
        check.due("6 is where it wants to be", x.passenger(6, 1), 2);
        check.due("6 is in no coach", x.passenger(6, 2), NONE);
        check.due("6 is BOOKED no more", x.passenger(6, 5), NONE);
        check.due("HORNS", x.told(5), 1);
        check.due("horn(0) with nobody there", x.horn(0), 0);
        check.due("OWNER stays", x.coach(0, 3), 2);
        check.due("0 is where it wants to be", x.passenger(0, 1), 3);
        check.due("horn(2)", x.horn(2), UNKNOWN);
        check.due("horn(-1)", x.horn(-1), UNKNOWN);
    }

    private static void hornPays() {
        LeftCoaches x = Check.of("l4 0;c0 1 6;p0 0 0 2 0;p0 0 7 3 0;p0 0 1 1 0;");
        check.due("horn(0)", x.horn(0), 2);
        check.due("0 pays", x.passenger(0, 6), 99999);
        check.due("1 is paid by both", x.passenger(1, 6), 100002);
        check.due("2 pays and gets out", x.passenger(2, 6), 99999);
        check.due("2 is at 1", x.passenger(2, 1), 1);
        x.walk(1, true);
        x.slow(1, 6);
        x.book(1, 0);
        check.due("horn(0)", x.horn(0), 0);
        check.due("1 is in its own", x.passenger(1, 2), 0);
        check.due("1 does not pay itself", x.passenger(1, 6), 100003);
        check.due("0 pays again", x.passenger(0, 6), 99998);
        x.horn(0);
        check.due("nobody else is in it", x.passenger(1, 6), 100003);
        x = Check.of("l4 0;c0 1 6;p0 0 0 2 0;");
        x.horn(0);
        check.due("no OWNER, no penny", x.passenger(0, 6), 100000);
    }

    private static void hornReadsLagsAhead() {
        LeftCoaches x = Check.of("l4 0;c0 1 9;p1 0 5 2 0;p1 0 4 3 0;p2 0 10 1 0;p3 0 19 1 0;");
        check.due("horn(0)", x.horn(0), 7);
        check.due("OWNER", x.coach(0, 3), 0);
        check.due("the tied one is in it", x.coach(0, 4), 0);
        check.due("and out at 1", x.passenger(3, 1), 1);
        x = Check.of("l4 1;c0 1 4;p0 0 9 2 0;p0 0 10 3 0;p0 0 3 3 0;");
        check.due("horn(0) by LANTERNS", x.horn(0), 2);
        check.due("in it", x.coach(0, 4), 5);
        x = Check.of("l2 0;c0 1 10;p2 0 9 0 9;");
        int[] left = {0, 0, 1, 0, 0, 1};
        for (int horn = 0; horn < 6; horn++) {
            x.book(0, 0);
            check.due("old lady at HORN " + horn, x.left(0, 0), x.coach(0, 0) == x.passenger(0, 1) ? left[horn] : 0);
            x.horn(0);
            if (x.passenger(0, 2) != NONE) {
                x.out(0);
            }
        }
    }

    private static void hornTurns() {
        LeftCoaches x = Check.of("l3 0;c0 0 0;c2 1 0;c1 1 0;c1 0 0;");
        int[][] inns = {{1, 2, 1, 0, 1}, {1, 0, 1, 2, 1}, {2, 1, 0, 1, 2}, {0, 1, 2, 1, 0}};
        int[][] ups = {{1, 1, 0, 0, 1}, {0, 0, 1, 1, 0}, {1, 0, 0, 1, 1}, {0, 1, 1, 0, 0}};
        for (int c = 0; c < 4; c++) {
            for (int i = 0; i < 5; i++) {
                x.horn(c);
                check.due("INN of " + c, x.coach(c, 0), inns[c][i]);
                check.due("way of " + c, x.coach(c, 1), ups[c][i]);
            }
        }
    }

    private static void hornsAreFull() {
        LeftCoaches x = Check.of("l3 0;c0 0 0;c2 1 0;c1 1 0;c1 0 0;");
        for (int i = 1; i <= 75; i++) {
            check.due("rounds(30)", x.rounds(30), 120 * i);
        }
        check.due("horn(0) at 9000", x.horn(0), 0);
        check.due("HORNS", x.told(5), 9001);
        check.due("horn(0) at 9001", x.horn(0), FULL);
        check.due("horn(4) at 9001", x.horn(4), UNKNOWN);
        check.promise(10);
        check.due("rounds(1) at 9001", x.rounds(1), FULL);
        check.due("rounds(31) at 9001", x.rounds(31), OUTSIDE);
        check.promise(17);
        check.due("drift(1) at 9001", x.drift(1), FULL);
        check.due("drift(0) at 9001", x.drift(0), OUTSIDE);
        check.promise(18);
        check.due("undo()", x.undo(), 15);
        check.promise(17);
        check.due("drift(30) at 9000", x.drift(30), 9120);
        check.promise(19);
        check.due("left(0, 0) when full", x.left(0, 0), 0);
        check.promise(20);
        x = Check.of("l3 0;c0 0 0;");
        check.due("no PASSENGER", x.behind(0, 1, 0), UNKNOWN);
    }

    private static void rounds() {
        check.promise(10);
        LeftCoaches x = Check.of("l4 0;c0 1 6;c3 0 6;p0 0 0 3 0;p0 3 9 0 1;");
        check.due("rounds(0)", x.rounds(0), OUTSIDE);
        check.due("rounds(31)", x.rounds(31), OUTSIDE);
        check.due("rounds(-1)", x.rounds(-1), OUTSIDE);
        check.due("rounds(2)", x.rounds(2), 4);
        check.due("INN of 0", x.coach(0, 0), 2);
        check.due("INN of 1", x.coach(1, 0), 1);
        check.due("HORN of the second coach", x.lefts(0, 0), 1);
        check.due("rounds(30)", x.rounds(30), 64);
        check.due("0 has come", x.passenger(0, 1), 3);
        check.due("rounds(1) without a line", new LeftCoaches().rounds(1), NOT);
        check.due("rounds(0) without a line", new LeftCoaches().rounds(0), OUTSIDE);
    }

    private static void roundsWithoutCoaches() {
        LeftCoaches x = Check.of("l4 0;p0 0 0 3 9;");
        check.due("rounds(9)", x.rounds(9), 0);
        check.due("can be undone", x.told(12), 1);
    }

    private static void book() {
        check.promise(11);
        LeftCoaches x = Check.of("l4 0;c0 1 6;c3 0 6;p0 0 0 3 0;p0 3 9 0 9;");
        check.due("book(1, 1)", x.book(1, 1), NONE);
        check.due("book(1, 0)", x.book(1, 0), 1);
        check.due("book(1, 0)", x.book(1, 0), 0);
        check.due("book(1, NONE)", x.book(1, NONE), 0);
        check.due("book(1, NONE)", x.book(1, NONE), NONE);
        check.due("book(2, 0)", x.book(2, 0), UNKNOWN);
        check.due("book(-1, 0)", x.book(-1, 0), UNKNOWN);
        check.due("book(0, 2)", x.book(0, 2), UNKNOWN);
        check.due("book(0, 9)", x.book(0, 9), UNKNOWN);
        check.due("book(0, -2)", x.book(0, -2), UNKNOWN);
        x.horn(0);
        check.due("book(0, 1) in a coach", x.book(0, 1), NOT);
        check.due("book(0, NONE) in a coach", x.book(0, NONE), NOT);
        check.due("book(0, 2) in a coach", x.book(0, 2), UNKNOWN);
        check.due("still BOOKED", x.passenger(0, 5), 0);
    }

    private static void walk() {
        check.promise(12);
        LeftCoaches x = Check.of("l3 0;c0 1 6;p0 1 0 2 0;p0 0 0 2 0;");
        check.due("walk up", x.walk(0, true), 2);
        check.due("walk up at the end", x.walk(0, true), NOT);
        check.due("INN", x.passenger(0, 1), 2);
        check.due("still BOOKED", x.passenger(0, 5), 0);
        check.due("walk down", x.walk(0, false), 1);
        check.due("walk down", x.walk(0, false), 0);
        check.due("walk down at the end", x.walk(0, false), NOT);
        check.due("walk of 2", x.walk(2, true), UNKNOWN);
        check.due("walk of -1", x.walk(-1, false), UNKNOWN);
        x.horn(0);
        check.due("walk up in a coach", x.walk(1, true), NOT);
        check.due("walk down in a coach", x.walk(1, false), NOT);
        check.due("can be undone", x.told(12), 4);
    }

    private static void out() {
        check.promise(13);
        LeftCoaches x = Check.of("l4 0;c0 1 6;c1 1 6;p0 1 0 3 1;");
        check.due("out at an inn", x.out(0), NOT);
        x.horn(1);
        check.due("out", x.out(0), 1);
        check.due("INN", x.passenger(0, 1), 2);
        check.due("COACH", x.passenger(0, 2), NONE);
        check.due("BOOKED", x.passenger(0, 5), NONE);
        check.due("out again", x.out(0), NOT);
        check.due("out(1)", x.out(1), UNKNOWN);
        check.due("out(-1)", x.out(-1), UNKNOWN);
    }

    private static void slow() {
        check.promise(14);
        LeftCoaches x = Check.of("l4 0;c0 1 6;p0 0 7 3 0;");
        check.due("slow(0, 30)", x.slow(0, 30), 7);
        check.due("slow(0, 0)", x.slow(0, 0), 30);
        check.due("slow(0, 31)", x.slow(0, 31), OUTSIDE);
        check.due("slow(0, -1)", x.slow(0, -1), OUTSIDE);
        check.due("slow(1, 31)", x.slow(1, 31), UNKNOWN);
        check.due("slow(-1, 0)", x.slow(-1, 0), UNKNOWN);
        check.due("SLOW", x.passenger(0, 3), 0);
        x.horn(0);
        check.due("slow(0, 5) in a coach", x.slow(0, 5), 0);
    }

    private static void waits() {
        check.promise(15);
        LeftCoaches x = Check.of("l4 0;c0 1 6;p0 0 7 3 0;");
        check.due("waits(0, 50)", x.waits(0, 50), 6);
        check.due("waits(0, 0)", x.waits(0, 0), 50);
        check.due("waits(0, 51)", x.waits(0, 51), OUTSIDE);
        check.due("waits(0, -1)", x.waits(0, -1), OUTSIDE);
        check.due("waits(1, 51)", x.waits(1, 51), UNKNOWN);
        check.due("waits(-1, 0)", x.waits(-1, 0), UNKNOWN);
        check.due("waits(0, 7)", x.waits(0, 7), 0);
        check.due("horn(0)", x.horn(0), 0);
        check.due("in it", x.coach(0, 4), 1);
    }

    private static void light() {
        check.promise(16);
        LeftCoaches x = Check.of("l4 6;");
        check.due("light(15)", x.light(15), 6);
        check.due("light(16)", x.light(16), UNKNOWN);
        check.due("light(-1)", x.light(-1), UNKNOWN);
        check.due("light(1 << 31)", x.light(1 << 31), UNKNOWN);
        check.due("light(0)", x.light(0), 15);
        check.due("LANTERNS", x.told(1), 0);
        LeftCoaches none = new LeftCoaches();
        check.due("light(0) without a line", none.light(0), NOT);
        check.due("light(1) without a line", none.light(1), UNKNOWN);
    }

    /** The draws are made here again, by hand. */
    private static void drift() {
        check.promise(17);
        LeftCoaches x = Check.of("l5 0;c0 1 6;c4 0 9;c2 1 0;p0 0 7 3 0;p1 2 3 0 9;p2 3 6 1 2;p3 4 30 2 1;");
        LeftCoaches y = Check.of("l5 0;c0 1 6;c4 0 9;c2 1 0;p0 0 7 3 0;p1 2 3 0 9;p2 3 6 1 2;p3 4 30 2 1;");
        x.seed(1234567);
        long[] luck = {1234567};
        int[] deeds = new int[4];
        for (int round = 1; round <= 60; round++) {
            int deed = draw(luck, 4);
            int p = draw(luck, 4);
            int c = draw(luck, 3);
            deeds[deed]++;
            if (deed <= 1 && y.passenger(p, 2) == NONE) {
                y.book(p, c);
            } else if (deed == 2) {
                y.slow(p, draw(luck, 31));
            } else if (deed == 3 && y.passenger(p, 2) != NONE) {
                y.out(p);
            }
            y.rounds(1);
            check.due("drift(1)", x.drift(1), 3 * round);
            if (round % 20 == 0) {
                check.due("alike after " + round, alike(x, y), 1);
            }
        }
        check.due("each deed was drawn", Math.min(Math.min(deeds[0], deeds[1]), Math.min(deeds[2], deeds[3])) > 0 ? 1 : 0, 1);
        check.due("THE SEED", x.seed(0), luck[0]);
        check.due("drift(0)", x.drift(0), OUTSIDE);
        check.due("drift(31)", x.drift(31), OUTSIDE);
        check.due("drift(30)", x.drift(30), 270);
        check.due("drift(1) without a line", new LeftCoaches().drift(1), NOT);
        check.due("drift(31) without a line", new LeftCoaches().drift(31), OUTSIDE);
    }

    private static int draw(long[] luck, int n) {
        luck[0] = (luck[0] * 1103515245L + 12345L) % (1L << 31);
        return (int) (luck[0] / 65536 % n);
    }

    private static int alike(LeftCoaches x, LeftCoaches y) {
        boolean alike = x.told(5) == y.told(5) && x.told(9) == y.told(9);
        for (int what = 0; what <= 8; what++) {
            for (int p = 0; p < 4; p++) {
                alike &= x.passenger(p, what) == y.passenger(p, what);
            }
            for (int c = 0; c < 3; c++) {
                alike &= x.coach(c, what) == y.coach(c, what);
            }
        }
        return alike ? 1 : 0;
    }

    private static void driftAlone() {
        LeftCoaches x = Check.of("l3 0;c0 1 3;");
        x.seed(9);
        check.due("drift(3) without passengers", x.drift(3), 3);
        check.due("no draw", x.seed(9), 9);
        x = Check.of("l3 0;p0 0 0 0 9;");
        x.seed(9);
        check.due("drift(3) without coaches", x.drift(3), 0);
        check.due("no draw", x.seed(9), 9);
    }

    private static void undoOfEach() {
        check.promise(18);
        LeftCoaches x = Check.of("l4 3;c0 1 6;c3 0 9;p0 0 30 3 0;p0 0 1 3 0;");
        check.due("undo() of nothing", x.undo(), NOT);
        x.horn(0);
        x.rounds(3);
        x.book(0, 1);
        x.walk(0, true);
        x.horn(0);
        x.slow(0, 3);
        x.waits(0, 2);
        x.light(8);
        x.drift(4);
        check.due("undo() of drift", x.undo(), 8);
        check.due("HORNS", x.told(5), 8);
        check.due("LANTERNS", x.told(1), 8);
        check.due("undo() of light", x.undo(), 7);
        check.due("LANTERNS", x.told(1), 3);
        check.due("undo() of waits", x.undo(), 6);
        check.due("WAIT", x.coach(0, 2), 6);
        check.due("undo() of slow", x.undo(), 5);
        check.due("SLOW", x.passenger(0, 3), 30);
        check.due("undo() of horn", x.undo(), 4);
        check.due("HORNS", x.told(5), 7);
        check.due("undo() of walk", x.undo(), 3);
        check.due("INN", x.passenger(0, 1), 0);
        check.due("undo() of book", x.undo(), 2);
        check.due("BOOKED", x.passenger(0, 5), NONE);
        check.due("PENCE", x.passenger(0, 6), 100003);
        check.due("undo() of rounds", x.undo(), 1);
        check.due("PENCE", x.passenger(0, 6), 100001);
        check.due("in it", x.coach(0, 4), 2);
        x.out(1);
        check.due("undo() of out", x.undo(), 1);
        check.due("in it", x.coach(0, 4), 2);
        check.due("INN", x.passenger(1, 1), NONE);
        check.due("lefts", x.told(9), 1);
        x.see(0, 0, 0, true);
        x.write(0, 0);
        x.seed(4711);
        check.due("undo() of the first horn", x.undo(), 0);
        check.due("lefts", x.told(9), 0);
        check.due("lefts(0, 3)", x.lefts(0, 3), NONE);
        check.due("OWNER", x.coach(0, 3), NONE);
        check.due("BOOKED", x.coach(0, 5), 3);
        check.due("PENCE", x.passenger(0, 6), 100000);
        check.due("way", x.coach(0, 1), 1);
        check.due("INN", x.coach(0, 0), 0);
        check.due("SEEN stays", x.told(10), 1);
        check.due("THE ROLL stays", x.told(11), 1);
        check.due("THE SEED stays", x.seed(1), 4711);
        check.due("undo() of no more", x.undo(), NOT);
    }

    private static void undoKeepsSixteen() {
        LeftCoaches x = Check.of("l4 0;p0 0 0 3 9;");
        for (int s = 1; s <= 20; s++) {
            x.slow(0, s);
            check.due("can be undone", x.told(12), Math.min(s, 16));
        }
        for (int s = 19; s >= 4; s--) {
            check.due("undo()", x.undo(), s - 4);
            check.due("SLOW", x.passenger(0, 3), s);
        }
        check.due("the oldest are lost", x.undo(), NOT);
        check.due("SLOW", x.passenger(0, 3), 4);
    }

    /** The book of lefts is full when what is undone is done, so that its oldest row must come back. */
    private static void undoBringsLostLeftsBack() {
        LeftCoaches x = Check.of("l2 0;c0 1 0;p0 0 9 0 9;p0 1 9 1 9;");
        for (int horn = 0; horn < 23; horn++) {
            x.book(horn % 2, 0);
            x.horn(0);
        }
        check.due("the oldest", x.lefts(19, 0), 3);
        x.undo();
        check.due("the oldest, back again", x.lefts(19, 0), 2);
        check.due("the latest", x.lefts(0, 0), 21);
        check.due("how many", x.told(9), 20);
    }

    private static void refusedIsNotUndone() {
        LeftCoaches x = Check.of("l2 0;c0 1 9;p0 0 0 1 9;");
        x.horn(1);
        x.rounds(0);
        x.book(0, 1);
        x.walk(0, false);
        x.out(0);
        x.slow(0, 31);
        x.waits(0, 51);
        x.light(4);
        x.drift(31);
        check.due("can be undone", x.told(12), 0);
        x.book(0, NONE);
        x.light(0);
        check.due("what changes nothing can be undone", x.told(12), 2);
        x.seed(1);
        x.see(0, 0, 0, true);
        x.write(0, 0);
        x.tear();
        x.left(0, 0);
        x.lights(3);
        x.scheme(0, 3, 0);
        check.due("can be undone", x.told(12), 2);
    }
}
