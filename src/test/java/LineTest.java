/** Promises 1 to 8: the text and what is told of the line. */
public final class LineTest {
    private static final int OUTSIDE = LeftCoaches.OUTSIDE, UNKNOWN = LeftCoaches.UNKNOWN, NONE = LeftCoaches.NONE;
    private static final Check check = new Check("LineTest");

    public static void main(String[] args) {
        newObject();
        feeding();
        goodTexts();
        faults();
        textsBehindLongerOnes();
        fullTexts();
        mostThenFewer();
        lineStartsAnew();
        faultLeavesAll();
        told();
        coach();
        passenger();
        lefts();
        leftsKeepTwenty();
        check.end();
    }

    private static void newObject() {
        check.promise(1);
        LeftCoaches x = new LeftCoaches();
        for (int what = 0; what <= 12; what++) {
            check.due("told(" + what + ")", x.told(what), what == 8 ? NONE : 0);
        }
        check.due("fault()", x.fault(), NONE);
        check.due("coach(0, 0)", x.coach(0, 0), UNKNOWN);
        check.due("passenger(0, 0)", x.passenger(0, 0), UNKNOWN);
        check.due("horn(0)", x.horn(0), UNKNOWN);
        check.due("rounds(1)", x.rounds(1), LeftCoaches.NOT);
        check.due("goBack(0)", x.goBack(0), LeftCoaches.NOT);
        check.due("seed(0)", x.seed(0), 0);
    }

    private static void feeding() {
        check.promise(2);
        LeftCoaches x = new LeftCoaches();
        check.due("feed(-1)", x.feed(-1), OUTSIDE);
        check.due("feed(256)", x.feed(256), OUTSIDE);
        check.due("feed(0)", x.feed(0), 1);
        check.due("feed(255)", x.feed(255), 2);
        for (int i = 3; i <= 240; i++) {
            check.due("feed(32)", x.feed(32), i);
        }
        check.due("feed(32) on 240", x.feed(32), LeftCoaches.FULL);
        check.due("feed(256) on 240", x.feed(256), OUTSIDE);
        check.due("told(4)", x.told(4), 240);
        check.due("line()", x.line(), -11);
        check.due("told(4)", x.told(4), 0);
        check.due("feed(32)", x.feed(32), 1);
    }

    private static void good(String text, int passengers) {
        LeftCoaches x = new LeftCoaches();
        Check.feed(x, text);
        check.due("line() of '" + text + "'", x.line(), passengers);
        check.due("fault() of '" + text + "'", x.fault(), NONE);
        check.due("told(4) of '" + text + "'", x.told(4), 0);
    }

    private static void bad(String text, int fault, int letter) {
        LeftCoaches x = new LeftCoaches();
        Check.feed(x, text);
        check.promise(3);
        check.due("line() of '" + text + "'", x.line(), -10 - fault);
        check.promise(4);
        check.due("fault() of '" + text + "'", x.fault(), letter);
        check.due("told(4) of '" + text + "'", x.told(4), 0);
        check.due("told(0) of '" + text + "'", x.told(0), 0);
    }

    private static void goodTexts() {
        check.promise(3);
        good("", 0);
        good("     ", 0);
        good("l2 0;", 0);
        good("l7 127;", 0);
        good("l2 3;", 0);
        good("  l  002 003 ;  c 001 1 030 ; p 3 1 30 0 009 ;  ", 1);
        good("l2 0;c0 0 0;p0 0 0 0 0;c1 1 30;p0 0 0 0 1;", 2);
        good("l2 0;c0 0 0;c0 0 0;c0 0 0;c0 0 0;p0 0 0 0 3;", 1);
        good("l2 0;p0 0 0 0 9;p0 0 0 0 9;p0 0 0 0 9;p0 0 0 0 9;p0 0 0 0 9;p0 0 0 0 9;p0 0 0 0 9;", 7);
    }

    private static void faults() {
        bad("x", 1, 0);
        bad("5", 1, 0);
        bad(";", 1, 0);
        bad("c0 0 0;", 1, 0);
        bad("  p", 1, 2);
        bad("L2 0;", 1, 0);
        bad("l", 1, 1);
        bad("l  ", 1, 3);
        bad("l;", 1, 1);
        bad("l2", 1, 2);
        bad("l2;", 1, 2);
        bad("l2 0", 1, 4);
        bad("l2 0  ", 1, 6);
        bad("l2 0 0;", 1, 5);
        bad("l2 0 1234;", 1, 5);
        bad("l2 0;;", 1, 5);
        bad("l2 0;7", 1, 5);
        bad("l2 0;x", 1, 5);
        bad("l2 l", 1, 3);
        bad("l2,0;", 1, 2);
        bad("l2 0;c0 0 0p", 1, 11);
        bad("l2 0;c0 0;", 1, 9);
        bad("l2 0;p0 0 0 0;", 1, 13);
        bad("l1 0;", 2, 1);
        bad("l8 0;", 2, 1);
        bad("l 0002 0;", 2, 2);
        bad("l1234x", 2, 1);
        bad("l999", 2, 1);
        bad("l2 4;", 2, 3);
        bad("l7 128;", 2, 3);
        bad("l20;", 2, 1);
        bad("l2 0;c2 0 0;", 2, 6);
        bad("l2 0;c0 2 0;", 2, 8);
        bad("l2 0;c0 0 31;", 2, 10);
        bad("l2 0;c0 0  31", 2, 11);
        bad("l2 0;p4 0 0 0 9;", 2, 6);
        bad("l2 0;p0 2 0 0 9;", 2, 8);
        bad("l2 0;p0 0 31 0 9;", 2, 10);
        bad("l2 0;p0 0 0 2 9;", 2, 12);
        bad("l2 0;p0 0 0 0 0;", 2, 14);
        bad("l2 0;c0 0 0;p0 0 0 0 1;c0 0 0;", 2, 21);
        bad("l2 0;c0 0 0;p0 0 0 0  10;", 2, 22);
        bad("l2 0;c0 0 0;p0 0 0 0 8x", 2, 21);
        bad("l2 0;l", 3, 5);
        bad("l2 0; l2 0;", 3, 6);
        bad("l2 0;c0 0 0;c0 0 0;c0 0 0;c0 0 0;c", 3, 33);
        bad("l2 0;p0 0 0 0 9;p0 0 0 0 9;p0 0 0 0 9;p0 0 0 0 9;p0 0 0 0 9;p0 0 0 0 9;p0 0 0 0 9;p", 3, 82);
    }

    /** What stands behind the end of the text, from a longer one ahead of it, is never read. */
    private static void textsBehindLongerOnes() {
        String longer = ";;;;;;;;;;;;00000000000000000000000000000000000000";
        String[] texts = {"l2 0", "l2 0;c0 0 0", "l2 0;c0 0", "l2 0;p0 0 0 0 9", "l2 0;p0 0 0"};
        for (String text : texts) {
            LeftCoaches x = new LeftCoaches();
            Check.feed(x, longer);
            x.line();
            Check.feed(x, text);
            check.promise(3);
            check.due("line() of '" + text + "' behind a longer one", x.line(), -11);
            check.promise(4);
            check.due("fault() of '" + text + "' behind a longer one", x.fault(), text.length());
        }
    }

    private static void fullTexts() {
        String blanks = " ".repeat(240);
        good(blanks, 0);
        good(("l2 0;" + blanks).substring(0, 240), 0);
        good((blanks + "l2 0;").substring(5), 0);
        bad((blanks + "l2 0").substring(4), 1, 240);
        bad((blanks + "l").substring(1), 1, 240);
        bad((blanks + "l2 0;c0 0 0").substring(11), 1, 240);
        bad((blanks + "l2 00004").substring(8), 2, 235);
    }

    /** As many coaches and passengers as can be, then fewer: nothing of the first is seen in the second. */
    private static void mostThenFewer() {
        check.promise(3);
        LeftCoaches x = new LeftCoaches();
        Check.feed(x, "l7 0;c0 1 0;c0 1 0;c0 1 0;c0 1 0;p1 0 9 6 0;p1 0 9 6 0;p1 0 9 6 0;p1 0 9 6 0;p1 0 9 6 0;p1 0 9 6 3;p1 0 30 6 3;");
        check.due("line()", x.line(), 7);
        check.due("leastWait(3)", x.leastWait(3), 39);
        check.due("left(3, 0)", x.left(3, 0), 96);
        check.due("lights(20)", x.lights(20), NONE);
        check.due("rounds(1)", x.rounds(1), 4);
        check.due("FLEET", x.told(8), 0);
        check.due("owned", x.told(6), 9);
        check.due("EMPTY", x.told(7), 15);
        check.due("OWNS", x.passenger(6, 7), 8);
        Check.feed(x, "l2 3;c1 0 5;p0 1 4 0 0;");
        check.due("line()", x.line(), 1);
        check.due("BOOKED", x.coach(0, 5), 1);
        check.due("EMPTY", x.told(7), 0);
        check.due("owned", x.told(6), 0);
        check.due("FLEET", x.told(8), NONE);
        check.due("coach(1, 0)", x.coach(1, 0), UNKNOWN);
        check.due("passenger(1, 0)", x.passenger(1, 0), UNKNOWN);
        check.due("lights(20)", x.lights(20), 0);
    }

    private static void lineStartsAnew() {
        check.promise(3);
        LeftCoaches x = Check.of("l3 5;c0 1 4;p0 0 9 2 0;p0 1 1 1 9;");
        x.seed(77);
        x.keep(0);
        x.horn(0);
        x.see(0, 0, 0, true);
        x.write(0, 0);
        Check.feed(x, "l3 5;c0 1 4;p0 0 9 2 0;");
        check.due("line()", x.line(), 1);
        check.due("HORNS", x.told(5), 0);
        check.due("owned", x.told(6), 0);
        check.due("PENCE", x.passenger(0, 6), 100000);
        check.due("lefts", x.told(9), 0);
        check.due("lefts(0, 0)", x.lefts(0, 0), NONE);
        check.due("SEEN", x.told(10), 0);
        check.due("ROLL", x.told(11), 0);
        check.due("can be undone", x.told(12), 0);
        check.due("undo()", x.undo(), LeftCoaches.NOT);
        check.due("goBack(0)", x.goBack(0), LeftCoaches.NOT);
        check.due("INN", x.coach(0, 0), 0);
        check.due("BOOKED", x.passenger(0, 5), 0);
        check.due("line() of nothing", x.line(), 0);
        check.due("INNS", x.told(0), 0);
        check.due("COACHES", x.told(2), 0);
        check.due("PASSENGERS", x.told(3), 0);
        check.due("LANTERNS", x.told(1), 0);
        check.due("THE SEED stays", x.seed(1), 77);
    }

    private static void faultLeavesAll() {
        check.promise(3);
        LeftCoaches x = Check.of("l3 4;c0 1 4;p0 0 9 2 0;");
        x.keep(1);
        x.horn(0);
        x.see(0, 0, 0, true);
        x.write(0, 0);
        Check.feed(x, "l7 0;c6 0 0;c6 0 0;p3 6 6 6 1;p");
        check.due("line()", x.line(), -11);
        check.due("fault()", x.fault(), 31);
        int[] want = {3, 4, 1, 1, 0, 1, 1, 1, 0, 1, 1, 1, 1};
        for (int what = 0; what < want.length; what++) {
            check.due("told(" + what + ")", x.told(what), want[what]);
        }
        check.due("KIND", x.passenger(0, 0), 0);
        check.due("wants", x.passenger(0, 4), 2);
        check.due("undo()", x.undo(), 0);
        check.due("goBack(1)", x.goBack(1), 1);
        check.promise(4);
        Check.feed(x, "l2 0;");
        check.due("fault() ahead of line()", x.fault(), 31);
        check.due("line()", x.line(), 0);
        check.due("fault() of the latest", x.fault(), NONE);
    }

    private static void told() {
        check.promise(5);
        LeftCoaches x = Check.of("l5 17;c0 1 4;c2 0 0;c4 0 0;p0 0 9 2 0;p0 2 1 4 1;p0 2 0 1 1;");
        int[] first = {5, 17, 3, 3, 0, 0, 0, 4, NONE, 0, 0, 0, 0};
        for (int what = 0; what < first.length; what++) {
            check.due("told(" + what + ")", x.told(what), first[what]);
        }
        check.due("told(-1)", x.told(-1), OUTSIDE);
        check.due("told(13)", x.told(13), OUTSIDE);
        x.feed('l');
        x.slow(0, 10);
        x.horn(0);
        x.horn(1);
        x.see(1, 1, 1, true);
        x.write(0, NONE);
        x.write(0, NONE);
        int[] then = {5, 17, 3, 3, 1, 2, 3, 7, 1, 2, 1, 2, 3};
        for (int what = 0; what < then.length; what++) {
            check.due("told(" + what + ") then", x.told(what), then[what]);
        }
        x.book(1, 1);
        check.due("told(7) with one BOOKED", x.told(7), 5);
        fleets();
    }

    /** Most coaches goes ahead of most pence, most pence ahead of the least number. */
    private static void fleets() {
        LeftCoaches x = Check.of("l3 0;c0 1 0;c0 1 0;c0 1 30;p0 0 5 2 0;p0 0 6 2 1;p0 0 7 2 9;p0 0 0 2 9;");
        x.horn(0);
        x.horn(1);
        check.due("like coaches, like pence", x.told(8), 0);
        x.walk(3, true);
        x.book(3, 1);
        x.horn(1);
        check.due("1 is paid a penny", x.passenger(1, 6), 100001);
        check.due("like coaches, more pence", x.told(8), 1);
        x = Check.of("l4 0;c0 1 0;c0 1 0;p0 0 5 2 0;p0 0 6 2 1;p0 1 0 3 0;p0 1 0 3 0;p0 1 0 3 1;p0 0 9 3 9;");
        x.rounds(2);
        check.due("0 is paid two", x.passenger(0, 6), 100002);
        check.due("1 is paid one", x.passenger(1, 6), 100001);
        check.due("like coaches, fewer pence", x.told(8), 0);
        x = Check.of("l3 0;c0 1 0;c0 1 0;c0 1 0;p0 0 5 2 0;p0 0 6 2 1;p0 0 0 2 1;");
        x.horn(0);
        x.horn(1);
        check.due("1 has more pence", x.told(8), 1);
        x.book(0, 2);
        x.horn(2);
        check.due("0 owns two", x.passenger(0, 7), 5);
        check.due("most coaches", x.told(8), 0);
    }

    private static void coach() {
        check.promise(6);
        LeftCoaches x = Check.of("l3 0;c0 1 4;c2 0 30;p0 0 4 2 0;p0 0 5 2 0;p0 1 5 2 0;");
        int[] first = {0, 1, 4, NONE, 0, 7};
        int[] second = {2, 0, 30, NONE, 0, 0};
        for (int what = 0; what < 6; what++) {
            check.due("coach(0, " + what + ")", x.coach(0, what), first[what]);
            check.due("coach(1, " + what + ")", x.coach(1, what), second[what]);
        }
        x.horn(0);
        int[] then = {1, 1, 4, 1, 1, 5};
        for (int what = 0; what < 6; what++) {
            check.due("coach(0, " + what + ") then", x.coach(0, what), then[what]);
        }
        check.due("coach(2, 0)", x.coach(2, 0), UNKNOWN);
        check.due("coach(-1, 0)", x.coach(-1, 0), UNKNOWN);
        check.due("coach(2, 6)", x.coach(2, 6), UNKNOWN);
        check.due("coach(0, 6)", x.coach(0, 6), OUTSIDE);
        check.due("coach(0, -1)", x.coach(0, -1), OUTSIDE);
    }

    private static void passenger() {
        check.promise(7);
        LeftCoaches x = Check.of("l3 2;c0 1 4;p0 0 4 2 0;p1 0 5 2 0;p2 1 3 0 9;p3 2 9 2 9;");
        int[][] first = {
            {0, 0, NONE, 4, 2, 0, 100000, 0, 4},
            {1, 0, NONE, 5, 2, 0, 100000, 0, 14},
            {2, 1, NONE, 3, 0, NONE, 100000, 0, 0},
            {3, 2, NONE, 9, 2, NONE, 100000, 0, 4}};
        int[][] then = {
            {0, NONE, 0, 4, 2, 0, 99999, 0, NONE},
            {1, 0, NONE, 5, 2, NONE, 100001, 1, 5},
            {2, 1, NONE, 3, 0, NONE, 100000, 0, 0},
            {3, 2, NONE, 9, 2, NONE, 100000, 0, 4}};
        passengersAre(x, first);
        x.horn(0);
        passengersAre(x, then);
        x.light(0);
        check.due("LAG of the old lady at HORN 1", x.passenger(2, 8), 4);
        x.horn(0);
        check.due("LAG of the old lady at HORN 2", x.passenger(2, 8), 5);
        x.horn(0);
        check.due("LAG of the old lady at HORN 3", x.passenger(2, 8), 3);
        x.light(1);
        check.due("LAG of a hider with a coach, by LANTERNS", x.passenger(1, 8), 0);
        x.slow(1, 6);
        check.due("LAG of a hider with a coach, by LANTERNS", x.passenger(1, 8), 1);
        check.due("passenger(4, 0)", x.passenger(4, 0), UNKNOWN);
        check.due("passenger(-1, 9)", x.passenger(-1, 9), UNKNOWN);
        check.due("passenger(0, 9)", x.passenger(0, 9), OUTSIDE);
        check.due("passenger(0, -1)", x.passenger(0, -1), OUTSIDE);
    }

    private static void passengersAre(LeftCoaches x, int[][] want) {
        for (int p = 0; p < want.length; p++) {
            for (int what = 0; what < want[p].length; what++) {
                check.due("passenger(" + p + ", " + what + ")", x.passenger(p, what), want[p][what]);
            }
        }
    }

    private static void lefts() {
        check.promise(8);
        LeftCoaches x = Check.of("l3 0;c0 1 4;c1 1 0;p0 0 9 2 0;p0 2 9 2 1;p0 1 9 2 9;");
        x.horn(1);
        check.due("nobody was left", x.told(9), 0);
        x.horn(1);
        x.horn(0);
        x.book(2, 0);
        x.horn(0);
        int[][] want = {{3, 0, 1, 2, 0}, {2, 0, 0, 0, NONE}, {1, 1, 2, 1, NONE}, {NONE, NONE, NONE, NONE, NONE}};
        for (int i = 0; i < want.length; i++) {
            for (int what = 0; what < 5; what++) {
                check.due("lefts(" + i + ", " + what + ")", x.lefts(i, what), want[i][what]);
            }
        }
        check.due("lefts(-1, 0)", x.lefts(-1, 0), NONE);
        check.due("lefts(2147483647, 4)", x.lefts(2147483647, 4), NONE);
        check.due("lefts(0, 5)", x.lefts(0, 5), OUTSIDE);
        check.due("lefts(9, -1)", x.lefts(9, -1), OUTSIDE);
        x.walk(2, true);
        x.book(2, 0);
        x.horn(0);
        check.due("left by one's own coach, too", x.told(9), 4);
        check.due("who was it ahead", x.lefts(0, 4), 2);
        check.due("who is it", x.lefts(0, 3), 2);
    }

    private static void leftsKeepTwenty() {
        LeftCoaches x = Check.of("l2 0;c0 1 0;p0 0 9 0 9;p0 1 9 1 9;");
        for (int horn = 0; horn < 23; horn++) {
            x.book(horn % 2, 0);
            check.due("LEFT", x.horn(0), 1 << horn % 2);
            check.due("how many", x.told(9), Math.min(horn + 1, 20));
        }
        for (int i = 0; i < 21; i++) {
            check.due("lefts(" + i + ", 0)", x.lefts(i, 0), i < 20 ? 22 - i : NONE);
        }
    }
}
