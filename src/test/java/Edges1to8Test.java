/** The edges that promises 1 to 8 name, with those of section 1, the line: one test for each. */
public final class Edges1to8Test {
    private static final int OUTSIDE = LeftCoaches.OUTSIDE, UNKNOWN = LeftCoaches.UNKNOWN, NONE = LeftCoaches.NONE;
    private static final int NOT = LeftCoaches.NOT, FULL = LeftCoaches.FULL;
    private static final String FOUR_COACHES = "c0 1 0;c0 1 0;c0 1 0;c0 1 0;";
    private static final String SEVEN = "p0 0 0 0 9;p0 0 0 0 9;p0 0 0 0 9;p0 0 0 0 9;p0 0 0 0 9;p0 0 0 0 9;p0 0 0 0 9;";
    private static final Edges edge = new Edges("Edges1to8Test");

    public static void main(String[] args) throws IllegalAccessException {
        edge.run(Edges1to8Test.class, 1, 8);
    }

    private static void good(String text, int passengers) {
        LeftCoaches x = new LeftCoaches();
        Check.feed(x, text);
        edge.due("line() of '" + text + "'", x.line(), passengers);
        edge.due("fault() of '" + text + "'", x.fault(), NONE);
        edge.due("told(4) behind '" + text + "'", x.told(4), 0);
    }

    private static void bad(String text, int fault, int letter) {
        LeftCoaches x = new LeftCoaches();
        Check.feed(x, text);
        edge.due("line() of '" + text + "'", x.line(), -10 - fault);
        edge.due("fault() of '" + text + "'", x.fault(), letter);
        edge.due("told(4) behind '" + text + "'", x.told(4), 0);
        edge.due("told(0) behind '" + text + "'", x.told(0), 0);
    }

    // ---- promise 1

    static void promise01_new_hasNoLine() {
        LeftCoaches x = new LeftCoaches();
        edge.due("INNS", x.told(0), 0);
        edge.due("COACHES", x.told(2), 0);
        edge.due("PASSENGERS", x.told(3), 0);
        edge.due("rounds(1)", x.rounds(1), NOT);
        edge.due("light(0)", x.light(0), NOT);
        edge.due("drift(1)", x.drift(1), NOT);
        edge.due("lights(1)", x.lights(1), NOT);
    }

    static void promise01_new_hasNoCoachAndNoPassenger() {
        LeftCoaches x = new LeftCoaches();
        edge.due("coach(0, 0)", x.coach(0, 0), UNKNOWN);
        edge.due("horn(0)", x.horn(0), UNKNOWN);
        edge.due("waits(0, 0)", x.waits(0, 0), UNKNOWN);
        edge.due("left(0, 0)", x.left(0, 0), UNKNOWN);
        edge.due("leastWait(0)", x.leastWait(0), UNKNOWN);
        edge.due("passenger(0, 0)", x.passenger(0, 0), UNKNOWN);
        edge.due("book(0, NONE)", x.book(0, NONE), UNKNOWN);
        edge.due("walk(0, true)", x.walk(0, true), UNKNOWN);
        edge.due("out(0)", x.out(0), UNKNOWN);
        edge.due("slow(0, 0)", x.slow(0, 0), UNKNOWN);
        edge.due("behind(0, 0, 0)", x.behind(0, 0, 0), UNKNOWN);
        edge.due("comes(0)", x.comes(0), UNKNOWN);
        edge.due("scheme(0, 1, 0)", x.scheme(0, 1, 0), UNKNOWN);
        edge.due("write(0, NONE)", x.write(0, NONE), UNKNOWN);
    }

    static void promise01_new_hasNothingTold() {
        LeftCoaches x = new LeftCoaches();
        for (int what = 0; what <= 12; what++) {
            edge.due("told(" + what + ")", x.told(what), what == 8 ? NONE : 0);
        }
    }

    static void promise01_new_hasNothingOfAnother() {
        LeftCoaches other = Edges.busy();
        LeftCoaches x = new LeftCoaches();
        String ahead = Edges.all(other);
        Check.feed(x, "l2 3;c0 1 1;p0 0 30 1 0;");
        edge.due("line()", x.line(), 1);
        x.rounds(30);
        x.seed(5);
        x.keep(0);
        x.tear();
        edge.due("the other is as it was", Edges.all(other).equals(ahead) ? 1 : 0, 1);
        edge.due("its SEED, too", other.seed(0), 314159);
        edge.due("and its image", other.goBack(0), 1);
        edge.due("PASSENGERS", other.told(3), 5);
        edge.due("THE SEED of a third", new LeftCoaches().seed(0), 0);
    }

    static void promise01_new_isGoodForFiveHundredAndTwelveCalls() {
        LeftCoaches x = new LeftCoaches();
        Check.feed(x, "l2 0;c0 1 0;p0 0 0 1 9;");
        x.line();
        for (int call = 25; call < 512; call++) {
            x.slow(0, call % 31);
        }
        edge.due("the 512th", x.slow(0, 0), 511 % 31);
    }

    static void promise01_new_hasNothingSeenWrittenKeptOrUndone() {
        LeftCoaches x = new LeftCoaches();
        edge.due("undo()", x.undo(), NOT);
        edge.due("goBack(0)", x.goBack(0), NOT);
        edge.due("goBack(1)", x.goBack(1), NOT);
        edge.due("tear()", x.tear(), 0);
        edge.due("judge()", x.judge(), NONE);
        edge.due("lefts(0, 0)", x.lefts(0, 0), NONE);
        edge.due("fault()", x.fault(), NONE);
        edge.due("THE SEED is 0 at first", x.seed(0), 0);
    }

    // ---- promise 2

    static void promise02_feed_letterWithinItsBounds() {
        edge.within("feed", 0, 255, OUTSIDE, Edges::busy, LeftCoaches::feed);
    }

    static void promise02_feed_firstLetterMakesOne() {
        edge.due("feed(0)", new LeftCoaches().feed(0), 1);
        edge.due("feed(255)", new LeftCoaches().feed(255), 1);
    }

    static void promise02_feed_theLastLetterThatFits() {
        LeftCoaches x = new LeftCoaches();
        for (int i = 1; i <= 240; i++) {
            edge.due("feed of letter " + i, x.feed('l'), i);
        }
        edge.due("told(4)", x.told(4), 240);
    }

    static void promise02_feed_theFirstThatDoesNotFit() {
        edge.refused("feed on a full text", FULL, Edges::textFull, x -> x.feed(' '));
        edge.refused("feed of 255 on a full text", FULL, Edges::textFull, x -> x.feed(255));
    }

    static void promise02_feed_outsideGoesAheadOfFull() {
        edge.refused("feed(256) on a full text", OUTSIDE, Edges::textFull, x -> x.feed(256));
        edge.refused("feed(-1) on a full text", OUTSIDE, Edges::textFull, x -> x.feed(-1));
    }

    static void promise02_feed_againBehindAFullTextThatWasRead() {
        LeftCoaches x = Edges.textFull();
        edge.due("line()", x.line(), 1);
        edge.due("feed(108)", x.feed('l'), 1);
    }

    // ---- promise 3: the bounds of section 1

    static void promise03_line_innsWithinTheirBounds() {
        bad("l0 0;", 2, 1);
        bad("l1 0;", 2, 1);
        good("l2 0;", 0);
        good("l7 0;", 0);
        bad("l8 0;", 2, 1);
        bad("l999 0;", 2, 1);
    }

    static void promise03_line_lanternsWithinTheirBounds() {
        for (int inns = 2; inns <= 7; inns++) {
            int all = (1 << inns) - 1;
            good("l" + inns + " 0;", 0);
            good("l" + inns + " " + all + ";", 0);
            bad("l" + inns + " " + (all + 1) + ";", 2, 3);
            edge.due("LANTERNS at all " + inns, Check.of("l" + inns + " " + all + ";").told(1), all);
        }
    }

    static void promise03_line_wordLFirst() {
        bad("c0 1 0;l2 0;", 1, 0);
        bad("p0 0 0 0 9;l2 0;", 1, 0);
        bad(" c0 1 0;", 1, 1);
        good(" l2 0;c0 1 0;", 0);
    }

    static void promise03_line_wordLOnce() {
        bad("l2 0;l2 0;", 3, 5);
        bad("l2 0;c0 1 0; l3 0;", 3, 13);
        bad("l2 0;l", 3, 5);
    }

    static void promise03_line_innOfACoachThatThereIs() {
        for (int inns = 2; inns <= 7; inns++) {
            good("l" + inns + " 0;c0 0 0;", 0);
            good("l" + inns + " 0;c" + (inns - 1) + " 0 0;", 0);
            bad("l" + inns + " 0;c" + inns + " 0 0;", 2, 6);
        }
    }

    static void promise03_line_wayOfACoachWithinItsBounds() {
        good("l2 0;c0 0 0;", 0);
        good("l2 0;c0 1 0;", 0);
        bad("l2 0;c0 2 0;", 2, 8);
        edge.due("down", Check.of("l2 0;c0 0 0;").coach(0, 1), 0);
        edge.due("up", Check.of("l2 0;c0 1 0;").coach(0, 1), 1);
    }

    static void promise03_line_waitWithinItsBounds() {
        good("l2 0;c0 0 0;", 0);
        good("l2 0;c0 0 30;", 0);
        bad("l2 0;c0 0 31;", 2, 10);
        edge.due("WAIT", Check.of("l2 0;c0 0 30;").coach(0, 2), 30);
    }

    static void promise03_line_theFourthCoachAndTheFifth() {
        good("l2 0;" + FOUR_COACHES, 0);
        edge.due("COACHES", Check.of("l2 0;" + FOUR_COACHES).told(2), 4);
        bad("l2 0;" + FOUR_COACHES + "c0 1 0;", 3, 33);
        bad("l2 0;" + FOUR_COACHES + " c", 3, 34);
        bad("l2 0;" + FOUR_COACHES + "p0 0 0 0 9;c0 1 0;", 3, 44);
    }

    static void promise03_line_theSeventhPassengerAndTheEighth() {
        good("l2 0;" + SEVEN, 7);
        edge.due("PASSENGERS", Check.of("l2 0;" + SEVEN).told(3), 7);
        bad("l2 0;" + SEVEN + "p0 0 0 0 9;", 3, 82);
        bad("l2 0;" + SEVEN + "  p", 3, 84);
        bad("l2 0;" + SEVEN + "c0 0 0;p0 0 0 0 0;", 3, 89);
    }

    static void promise03_line_theFullLineThereCanBe() {
        good("l7 127;c6 1 30;c6 1 30;c6 1 30;c6 1 30;" + SEVEN.replace("p0 0 0 0 9", "p3 6 30 6 3"), 7);
    }

    static void promise03_line_kindWithinItsBounds() {
        good("l2 0;p0 0 0 0 9;", 1);
        good("l2 0;p3 0 0 0 9;", 1);
        bad("l2 0;p4 0 0 0 9;", 2, 6);
    }

    static void promise03_line_innOfAPassengerThatThereIs() {
        for (int inns = 2; inns <= 7; inns++) {
            good("l" + inns + " 0;p0 0 0 0 9;", 1);
            good("l" + inns + " 0;p0 " + (inns - 1) + " 0 0 9;", 1);
            bad("l" + inns + " 0;p0 " + inns + " 0 0 9;", 2, 8);
        }
    }

    static void promise03_line_slowWithinItsBounds() {
        good("l2 0;p0 0 0 0 9;", 1);
        good("l2 0;p0 0 30 0 9;", 1);
        bad("l2 0;p0 0 31 0 9;", 2, 10);
        edge.due("SLOW", Check.of("l2 0;p0 0 30 0 9;").passenger(0, 3), 30);
    }

    static void promise03_line_wantedInnThatThereIs() {
        for (int inns = 2; inns <= 7; inns++) {
            good("l" + inns + " 0;p0 0 0 " + (inns - 1) + " 9;", 1);
            bad("l" + inns + " 0;p0 0 0 " + inns + " 9;", 2, 12);
        }
    }

    static void promise03_line_bookedOnACoachToldAhead() {
        String coaches = "";
        for (int n = 0; n <= 4; n++) {
            String text = "l2 0;" + coaches + "p0 0 0 0 ";
            if (n > 0) {
                good(text + "0;", 1);
                good(text + (n - 1) + ";", 1);
            }
            bad(text + n + ";", 2, text.length());
            bad(text + "8;", 2, text.length());
            bad(text + "10;", 2, text.length());
            good(text + "9;", 1);
            coaches += "c0 1 0;";
        }
    }

    static void promise03_line_notBookedOnACoachToldBehind() {
        bad("l2 0;p0 0 0 0 0;c0 1 0;", 2, 14);
        bad("l2 0;c0 1 0;p0 0 0 0 1;c0 1 0;", 2, 21);
        good("l2 0;c0 1 0;p0 0 0 0 0;c0 1 0;p0 0 0 0 1;", 2);
    }

    static void promise03_line_nineIsNone() {
        edge.due("BOOKED", Check.of("l2 0;" + FOUR_COACHES + "p0 0 0 0 9;").passenger(0, 5), NONE);
        edge.due("BOOKED", Check.of("l2 0;" + FOUR_COACHES + "p0 0 0 0 009;").passenger(0, 5), NONE);
    }

    // ---- promise 3: numbers, words and blanks

    static void promise03_line_numbersOfOneToThreeFigures() {
        good("l2 3;", 0);
        good("l02 03;", 0);
        good("l002 003;", 0);
        bad("l0002 3;", 2, 1);
        bad("l2 0003;", 2, 3);
        bad("l2 0000000000000000003;", 2, 3);
        good("l7 127;c006 001 030;p003 006 030 006 000;", 1);
        bad("l7 127;c0006 1 30;", 2, 8);
    }

    static void promise03_line_numbersFarBeyondAnInt() {
        bad("l4294967298 0;", 2, 1);
        bad("l2 18446744073709551616;", 2, 3);
        bad("l2 0;c0 1 4294967296;", 2, 10);
    }

    static void promise03_line_blanksAnywhereButWithinNumbers() {
        good("  l  7  127  ;  c  6  1  30  ;  p  3  6  30  6  0  ;  ", 1);
        good("l7 127;c6 1 30;p3 6 30 6 0;", 1);
        bad("l7 12 7;", 1, 6);
        bad("l7 0;c6 1 3 0;", 1, 12);
    }

    static void promise03_line_noBlankIsNeededButBetweenNumbers() {
        good("l2 0;c0 1 0;p0 0 0 0 0;", 1);
        bad("l20;", 2, 1);
        bad("l2 0;c010;", 2, 6);
        bad("l2 0;c01 0;", 1, 10);
    }

    static void promise03_line_thirtyTwoAloneIsABlank() {
        for (int letter : new int[] {0, 9, 10, 13, 31, 33, 160, 255}) {
            bad("l2" + (char) letter + "0;", 1, 2);
            bad((char) letter + "l2 0;", 1, 0);
            bad("l2 0;" + (char) letter, 1, 5);
        }
    }

    static void promise03_line_lettersNextToFigures() {
        bad("l/ 0;", 1, 1);
        bad("l: 0;", 1, 1);
        bad("l2/0;", 1, 2);
        bad("l2:0;", 1, 2);
        good("l2 0;p0 0 19 0 9;", 1);
    }

    static void promise03_line_lettersNextToWords() {
        for (String letter : "k m b d o q L C P".split(" ")) {
            bad(letter + "2 0;", 1, 0);
            bad("l2 0;" + letter + "0 0 0;", 1, 5);
        }
    }

    static void promise03_line_lettersNextToTheEndOfAClause() {
        bad("l2 0:", 1, 4);
        bad("l2 0<", 1, 4);
        bad("l2 0;;", 1, 5);
        bad(";l2 0;", 1, 0);
    }

    static void promise03_line_aWordIsOneLetter() {
        bad("ll2 0;", 1, 1);
        bad("l2 0;cc0 0 0;", 1, 6);
        bad("l2 0;pp0 0 0 0 9;", 1, 6);
    }

    static void promise03_line_oneNumberTooFewOrTooMany() {
        bad("l;", 1, 1);
        bad("l2;", 1, 2);
        bad("l2 0 0;", 1, 5);
        bad("l2 0;c0 1;", 1, 9);
        bad("l2 0;c0 1 0 0;", 1, 12);
        bad("l2 0;p0 0 0 0;", 1, 13);
        bad("l2 0;p0 0 0 0 9 0;", 1, 16);
    }

    // ---- promise 3: which fault, and where

    static void promise03_line_ofSeveralFaultsTheFirst() {
        bad("l8 999;x", 2, 1);
        bad("l2 4;x", 2, 3);
        bad("l2 x;l", 1, 3);
        bad("l2 0;l9 9;", 3, 5);
        bad("l2 0;c2 2 31;", 2, 6);
        bad("l2 0;c0 2 31;", 2, 8);
        bad("l2 0;p4 2 31 2 8;", 2, 6);
        bad("l2 0;p0 2 31 2 8;", 2, 8);
        bad("l2 0;p0 0 31 2 8;", 2, 10);
        bad("l2 0;p0 0 0 2 8;", 2, 12);
        bad("l2 0;p0 0 0 0 8;", 2, 14);
    }

    static void promise03_line_ofFaultsAtOneLetterTheLeast() {
        bad("l2 0 0003;", 1, 5);
        bad("1234", 1, 0);
        bad("l2 l", 1, 3);
        bad("l2 0;" + FOUR_COACHES + "p0 0 c", 1, 38);
        bad("l2 0;" + SEVEN + "c0 p", 1, 85);
    }

    static void promise03_line_aBadNumberGoesAheadOfTheEnd() {
        bad("l8", 2, 1);
        bad("l0002", 2, 1);
        bad("l2 4", 2, 3);
        bad("l2 0;c0 0 31", 2, 10);
        bad("l2 0;p0 0 0 0 0", 2, 14);
    }

    static void promise03_line_answersTenLessTheFault() {
        bad("x", 1, 0);
        bad("l1", 2, 1);
        bad("l2 0;l", 3, 5);
    }

    static void promise03_line_emptyTextHasNoLine() {
        good("", 0);
        LeftCoaches x = new LeftCoaches();
        x.line();
        edge.due("INNS", x.told(0), 0);
        edge.due("rounds(1)", x.rounds(1), NOT);
    }

    static void promise03_line_blanksAloneHaveNoLine() {
        good(" ", 0);
        good(" ".repeat(239), 0);
        good(" ".repeat(240), 0);
        LeftCoaches x = Check.of("l3 5;c0 1 4;p0 0 9 2 0;");
        Check.feed(x, "   ");
        edge.due("line()", x.line(), 0);
        edge.due("INNS", x.told(0), 0);
        edge.due("LANTERNS", x.told(1), 0);
        edge.due("COACHES", x.told(2), 0);
        edge.due("coach(0, 0)", x.coach(0, 0), UNKNOWN);
        edge.due("passenger(0, 0)", x.passenger(0, 0), UNKNOWN);
        edge.due("rounds(1)", x.rounds(1), NOT);
    }

    static void promise03_line_emptyTextBehindALineTakesIt() {
        LeftCoaches x = Edges.busy();
        x.line();
        edge.due("line() of nothing", x.line(), 0);
        edge.due("INNS", x.told(0), 0);
        edge.due("light(0)", x.light(0), NOT);
        edge.due("light(1)", x.light(1), UNKNOWN);
        edge.due("goBack(0)", x.goBack(0), NOT);
    }

    static void promise03_line_aFullTextIsReadToItsLastLetter() {
        String text = "l2 0;c0 1 0;";
        good(" ".repeat(240 - text.length()) + text, 0);
        bad(" ".repeat(239) + "l", 1, 240);
        bad(" ".repeat(239) + "x", 1, 239);
        bad("l2 0;" + " ".repeat(234) + "x", 1, 239);
        bad("l2 0;" + " ".repeat(234) + "l", 3, 239);
        bad(" ".repeat(236) + "l2 0", 1, 240);
        bad(" ".repeat(236) + "l2 4", 2, 239);
    }

    static void promise03_line_aFullTextOfFigures() {
        bad("0".repeat(240), 1, 0);
        bad("l" + "0".repeat(239), 2, 1);
        bad("l2 " + "9".repeat(237), 2, 3);
    }

    static void promise03_line_answersHowManyPassengers() {
        String text = "l2 0;";
        for (int n = 0; n <= 7; n++) {
            good(text, n);
            text += "p0 0 0 0 9;";
        }
    }

    // ---- promise 3: what becomes of all else

    static void promise03_line_textIsEmptyThenWithAFaultToo() {
        LeftCoaches x = new LeftCoaches();
        Check.feed(x, "l2 0;c0 0 0;x");
        edge.due("line()", x.line(), -11);
        edge.due("told(4)", x.told(4), 0);
        Check.feed(x, "l2 0;");
        edge.due("line()", x.line(), 0);
        edge.due("fault()", x.fault(), NONE);
        edge.due("told(4)", x.told(4), 0);
        edge.due("COACHES", x.told(2), 0);
    }

    /** The latest fault ahead of it is at letter 3, too, so that fault() answers alike. */
    static void promise03_line_withAFaultAllElseIsAsItWas() {
        edge.refused("fault 1", -11, Edges1to8Test::faultAtThree, x -> faulty(x, "l7 x"));
        edge.refused("fault 2", -12, Edges1to8Test::faultAtThree, x -> faulty(x, "l7 128;c0 0 0;"));
        edge.refused("fault 2", -12, Edges1to8Test::faultAtThree, x -> faulty(x, "l2 4"));
    }

    private static int faulty(LeftCoaches x, String text) {
        Check.feed(x, text);
        return x.line();
    }

    private static LeftCoaches faultAtThree() {
        LeftCoaches x = Check.of("l5 9;c0 1 9;c4 0 3;p0 0 9 4 0;p1 1 2 0 1;p2 2 5 0 1;p3 0 30 3 9;");
        x.seed(271828);
        x.keep(0);
        x.horn(0);
        x.keep(1);
        x.see(0, 0, 8, true);
        x.write(0, 3);
        x.rounds(3);
        x.slow(2, 8);
        x.light(18);
        faulty(x, "l2 x");
        return x;
    }

    static void promise03_line_aFaultDeepInTheTextLeavesAllToo() {
        LeftCoaches x = Check.of("l3 4;c0 1 4;p0 0 9 2 0;");
        String want = Edges.all(x);
        int answer = faulty(x, "l7 99;" + FOUR_COACHES + SEVEN + "p");
        edge.due("line()", answer, -13);
        edge.due("all is as it was", Edges.all(x).equals(want) ? 1 : 0, 1);
        edge.due("leastWait(0)", x.leastWait(0), 9);
        edge.due("comes(0)", x.comes(0), NONE);
    }

    static void promise03_line_startsAnew() {
        LeftCoaches x = Edges.busy();
        edge.due("line()", x.line(), 1);
        int[] want = {3, 2, 1, 1, 0, 0, 0, 0, NONE, 0, 0, 0, 0};
        for (int what = 0; what < want.length; what++) {
            edge.due("told(" + what + ")", x.told(what), want[what]);
        }
        edge.due("OWNER", x.coach(0, 3), NONE);
        edge.due("PENCE", x.passenger(0, 6), 100000);
        edge.due("COACH it is in", x.passenger(0, 2), NONE);
    }

    static void promise03_line_imagesAndUndoAreGone() {
        LeftCoaches x = Edges.busy();
        x.line();
        edge.due("undo()", x.undo(), NOT);
        edge.due("goBack(0)", x.goBack(0), NOT);
        edge.due("goBack(1)", x.goBack(1), NOT);
        edge.due("lefts(0, 0)", x.lefts(0, 0), NONE);
        edge.due("truly(0)", x.truly(0), 31);
        edge.due("judge()", x.judge(), NONE);
        edge.due("tear()", x.tear(), 0);
    }

    static void promise03_line_theSeedStays() {
        LeftCoaches x = Edges.busy();
        x.line();
        edge.due("THE SEED", x.seed(0), 314159);
        x.seed(2147483647);
        x.line();
        edge.due("THE SEED behind an empty text", x.seed(0), 2147483647);
    }

    static void promise03_line_allAsToldAtTheTopOfTheBounds() {
        LeftCoaches x = Check.of("l7 127;c6 1 30;c6 1 30;c6 1 30;c6 1 30;" + SEVEN.replace("p0 0 0 0 9", "p3 6 30 6 3"));
        int[] coach = {6, 1, 30, NONE, 0, 127};
        int[] passenger = {3, 6, NONE, 30, 6, 3, 100000, 0, 10};
        for (int what = 0; what < coach.length; what++) {
            edge.due("coach(3, " + what + ")", x.coach(3, what), coach[what]);
        }
        for (int what = 0; what < passenger.length; what++) {
            edge.due("passenger(6, " + what + ")", x.passenger(6, what), passenger[what]);
        }
        edge.due("EMPTY", x.told(7), 7);
    }

    static void promise03_line_allAsToldAtTheFootOfTheBounds() {
        LeftCoaches x = Check.of("l2 0;c0 0 0;p0 0 0 0 0;");
        int[] coach = {0, 0, 0, NONE, 0, 1};
        int[] passenger = {0, 0, NONE, 0, 0, 0, 100000, 0, 0};
        for (int what = 0; what < coach.length; what++) {
            edge.due("coach(0, " + what + ")", x.coach(0, what), coach[what]);
        }
        for (int what = 0; what < passenger.length; what++) {
            edge.due("passenger(0, " + what + ")", x.passenger(0, what), passenger[what]);
        }
        edge.due("EMPTY", x.told(7), 0);
    }

    // ---- promise 4

    static void promise04_fault_noneAheadOfTheFirstLine() {
        LeftCoaches x = new LeftCoaches();
        edge.due("fault()", x.fault(), NONE);
        x.feed('x');
        edge.due("fault() with a text that has one", x.fault(), NONE);
    }

    static void promise04_fault_theFirstLetterIsZero() {
        bad("x", 1, 0);
        bad("2", 1, 0);
    }

    static void promise04_fault_theEndIsTheTextsLength() {
        String text = "l2 3;c1 1 30;p3 1 30 1 0;";
        for (int length = 1; length < text.length(); length++) {
            String part = text.substring(0, length);
            if (part.endsWith(";")) {
                good(part, 0);
            } else {
                bad(part, 1, length);
                bad(part + "  ", 1, length + 2);
            }
        }
    }

    static void promise04_fault_theEndOfAFullText() {
        bad(" ".repeat(239) + "l", 1, 240);
    }

    static void promise04_fault_ofTheLatestLineAlone() {
        LeftCoaches x = new LeftCoaches();
        faulty(x, "l2 0;x");
        edge.due("fault()", x.fault(), 5);
        faulty(x, "x");
        edge.due("fault()", x.fault(), 0);
        Check.feed(x, "l2 0;");
        edge.due("fault() ahead of line()", x.fault(), 0);
        x.line();
        edge.due("fault() of a good one", x.fault(), NONE);
        faulty(x, "l2 0;x");
        x.line();
        edge.due("fault() of an empty one", x.fault(), NONE);
    }

    static void promise04_fault_staysWhateverIsDone() {
        LeftCoaches x = Edges.busy();
        x.horn(0);
        x.undo();
        x.goBack(0);
        x.tear();
        edge.due("fault()", x.fault(), 3);
    }

    // ---- promise 5

    static void promise05_told_whatWithinItsBounds() {
        edge.within("told", 0, 12, OUTSIDE, Edges::busy, LeftCoaches::told);
        edge.within("told without a line", 0, 12, OUTSIDE, Edges::lineless, LeftCoaches::told);
    }

    static void promise05_told_changesNothing() {
        for (int what = 0; what <= 12; what++) {
            int asked = what;
            edge.changesNothing("told(" + what + ")", Edges::busy, x -> x.told(asked));
        }
    }

    static void promise05_told_ownedByNobodyByAll() {
        LeftCoaches x = Check.of("l2 0;" + FOUR_COACHES + "p0 0 1 0 0;");
        for (int c = 0; c <= 4; c++) {
            edge.due("owned", x.told(6), (1 << c) - 1);
            if (c < 4) {
                x.book(0, c);
                x.horn(c);
            }
        }
        edge.due("FLEET", x.told(8), 0);
        edge.due("OWNS", x.passenger(0, 7), 15);
    }

    static void promise05_told_emptyByNoneBookedNorIn() {
        LeftCoaches x = Check.of("l3 0;" + FOUR_COACHES + "p0 0 0 2 3;p0 2 0 0 0;");
        edge.due("EMPTY", x.told(7), 6);
        x.book(0, NONE);
        edge.due("EMPTY when nobody is BOOKED on 3", x.told(7), 14);
        x.book(0, 3);
        x.horn(3);
        edge.due("EMPTY with one in 3", x.told(7), 6);
        x.horn(3);
        edge.due("EMPTY when it has got out", x.told(7), 14);
        edge.due("EMPTY without passengers", Check.of("l3 0;" + FOUR_COACHES).told(7), 15);
        edge.due("EMPTY without coaches", Check.of("l3 0;p0 0 0 0 9;").told(7), 0);
    }

    static void promise05_told_fleetOfNobody() {
        edge.due("FLEET", Check.of("l2 0;c0 1 0;p0 0 9 1 0;").told(8), NONE);
        edge.due("FLEET without coaches", Check.of("l2 0;p0 0 9 1 9;").told(8), NONE);
        edge.due("FLEET without passengers", Check.of("l2 0;c0 1 0;").told(8), NONE);
    }

    static void promise05_told_fleetOfTheLastPassenger() {
        LeftCoaches x = Check.of("l2 0;c0 1 0;" + SEVEN.replace("p0 0 0 0 9", "p0 0 9 1 9"));
        x.book(6, 0);
        x.horn(0);
        edge.due("FLEET", x.told(8), 6);
    }

    static void promise05_told_fleetOfLikeOnesTheLeast() {
        LeftCoaches x = Check.of("l2 0;c0 1 0;c0 1 0;p0 0 9 1 1;p0 0 9 1 0;");
        x.rounds(1);
        edge.due("1 owns", x.passenger(1, 7), 1);
        edge.due("0 owns", x.passenger(0, 7), 2);
        edge.due("FLEET", x.told(8), 0);
    }

    /** 0 has paid 2 a penny, and 3 has taken the coach of 2 since: 0, 1 and 3 own one each. */
    static void promise05_told_fleetOfLikeOnesTheOneWithMostPence() {
        LeftCoaches x = Check.of("l3 0;c0 1 0;c0 1 0;c0 1 5;p0 0 9 2 0;p0 0 9 2 1;p0 0 9 1 2;p0 1 9 2 9;");
        x.rounds(1);
        edge.due("FLEET", x.told(8), 0);
        x.slow(0, 0);
        x.book(0, 2);
        for (int i = 0; i < 4; i++) {
            x.horn(2);
        }
        edge.due("FLEET of the one with a penny", x.told(8), 2);
        x.out(0);
        x.book(3, 2);
        x.horn(2);
        int[] pence = {99999, 100000, 100001, 100000};
        int[] owns = {1, 2, 0, 4};
        for (int p = 0; p < 4; p++) {
            edge.due("PENCE of " + p, x.passenger(p, 6), pence[p]);
            edge.due("OWNS of " + p, x.passenger(p, 7), owns[p]);
        }
        edge.due("FLEET of one with no penny below 0", x.told(8), 1);
    }

    static void promise05_told_fleetOfMostCoachesWhateverThePence() {
        LeftCoaches x = Check.of("l3 0;c0 1 0;c0 1 0;c0 1 0;p0 0 9 2 0;p0 0 9 2 1;p0 0 0 2 0;p0 0 0 2 0;");
        x.horn(0);
        x.horn(1);
        edge.due("PENCE of 0", x.passenger(0, 6), 100002);
        edge.due("FLEET", x.told(8), 0);
        x.book(1, 2);
        x.horn(2);
        edge.due("PENCE of 1", x.passenger(1, 6), 100000);
        edge.due("OWNS of 1", x.passenger(1, 7), 6);
        edge.due("FLEET", x.told(8), 1);
    }

    static void promise05_told_howManyAtTheMost() {
        edge.due("letters", Edges.textFull().told(4), 240);
        edge.due("SEEN", Edges.seenFull().told(10), 6);
        edge.due("entries", Edges.rollFull().told(11), 15);
        LeftCoaches x = lefts(25);
        edge.due("lefts", x.told(9), 20);
        edge.due("can be undone", x.told(12), 16);
        edge.due("HORNS", Edges.hornsFull().told(5), 9001);
    }

    // ---- promise 6

    static void promise06_coach_thatThereIs() {
        String text = "l2 0;";
        for (int n = 0; n <= 4; n++) {
            LeftCoaches x = Check.of(text);
            for (int c = 0; c < n; c++) {
                edge.due("coach(" + c + ", 0) of " + n, x.coach(c, 0), 1);
            }
            edge.due("coach(" + n + ", 0) of " + n, x.coach(n, 0), UNKNOWN);
            edge.due("coach(-1, 0) of " + n, x.coach(-1, 0), UNKNOWN);
            text += "c1 0 7;";
        }
        edge.within("coach(.., 0)", 0, 2, UNKNOWN, Edges::busy, (x, c) -> x.coach(c, 0));
    }

    static void promise06_coach_whatWithinItsBounds() {
        edge.within("coach(0, ..)", 0, 5, OUTSIDE, Edges::busy, (x, what) -> x.coach(0, what));
        edge.within("coach(2, ..)", 0, 5, OUTSIDE, Edges::busy, (x, what) -> x.coach(2, what));
    }

    static void promise06_coach_unknownGoesAheadOfOutside() {
        edge.refused("coach(3, 6)", UNKNOWN, Edges::busy, x -> x.coach(3, 6));
        edge.refused("coach(-1, -1)", UNKNOWN, Edges::busy, x -> x.coach(-1, -1));
        edge.refused("coach(0, 6) without a line", UNKNOWN, Edges::lineless, x -> x.coach(0, 6));
    }

    static void promise06_coach_changesNothing() {
        for (int what = 0; what <= 5; what++) {
            int asked = what;
            edge.changesNothing("coach(0, " + what + ")", Edges::busy, x -> x.coach(0, asked));
        }
    }

    static void promise06_coach_ownerNoneAtFirst() {
        LeftCoaches x = Check.of("l2 0;c0 1 0;p0 0 1 1 0;");
        edge.due("OWNER", x.coach(0, 3), NONE);
        x.horn(0);
        edge.due("OWNER", x.coach(0, 3), 0);
    }

    static void promise06_coach_allSevenInIt() {
        LeftCoaches x = Check.of("l3 0;c0 1 30;" + SEVEN.replace("p0 0 0 0 9", "p0 0 0 2 0"));
        edge.due("in it", x.coach(0, 4), 0);
        edge.due("BOOKED on it", x.coach(0, 5), 127);
        x.horn(0);
        edge.due("in it", x.coach(0, 4), 127);
        edge.due("BOOKED on it", x.coach(0, 5), 127);
        x.horn(0);
        edge.due("in it", x.coach(0, 4), 0);
        edge.due("BOOKED on it", x.coach(0, 5), 0);
    }

    // ---- promise 7

    static void promise07_passenger_thatThereIs() {
        String text = "l2 0;";
        for (int n = 0; n <= 7; n++) {
            LeftCoaches x = Check.of(text);
            for (int p = 0; p < n; p++) {
                edge.due("passenger(" + p + ", 0) of " + n, x.passenger(p, 0), 3);
            }
            edge.due("passenger(" + n + ", 0) of " + n, x.passenger(n, 0), UNKNOWN);
            edge.due("passenger(-1, 0) of " + n, x.passenger(-1, 0), UNKNOWN);
            text += "p3 1 2 0 9;";
        }
        edge.within("passenger(.., 0)", 0, 4, UNKNOWN, Edges::busy, (x, p) -> x.passenger(p, 0));
    }

    static void promise07_passenger_whatWithinItsBounds() {
        edge.within("passenger(0, ..)", 0, 8, OUTSIDE, Edges::busy, (x, what) -> x.passenger(0, what));
        edge.within("passenger(4, ..)", 0, 8, OUTSIDE, Edges::busy, (x, what) -> x.passenger(4, what));
    }

    static void promise07_passenger_unknownGoesAheadOfOutside() {
        edge.refused("passenger(5, 9)", UNKNOWN, Edges::busy, x -> x.passenger(5, 9));
        edge.refused("passenger(-1, -1)", UNKNOWN, Edges::busy, x -> x.passenger(-1, -1));
        edge.refused("passenger(0, 9) without a line", UNKNOWN, Edges::lineless, x -> x.passenger(0, 9));
    }

    static void promise07_passenger_changesNothing() {
        for (int what = 0; what <= 8; what++) {
            int asked = what;
            edge.changesNothing("passenger(1, " + what + ")", Edges::busy, x -> x.passenger(1, asked));
        }
    }

    static void promise07_passenger_noneInACoachAndAtAnInn() {
        LeftCoaches x = Edges.busy();
        edge.due("INN in a coach", x.passenger(0, 1), NONE);
        edge.due("COACH in a coach", x.passenger(0, 2), 0);
        edge.due("LAG in a coach", x.passenger(0, 8), NONE);
        edge.due("INN at the lower end", x.passenger(1, 1), 0);
        edge.due("COACH at an inn", x.passenger(1, 2), NONE);
        edge.due("BOOKED on none", x.passenger(4, 5), NONE);
    }

    private static int lag(int kind, int slow, int lanterns) {
        return Check.of("l2 " + lanterns + ";p" + kind + " 0 " + slow + " 0 9;").passenger(0, 8);
    }

    static void promise07_passenger_lagOfAnHonestOne() {
        edge.due("LAG", lag(0, 0, 0), 0);
        edge.due("LAG", lag(0, 30, 0), 30);
    }

    static void promise07_passenger_lagOfAHiderWithACoachAndWithout() {
        edge.due("LAG", lag(1, 0, 0), 9);
        edge.due("LAG", lag(1, 30, 0), 39);
        LeftCoaches x = Check.of("l2 0;c0 1 0;p1 0 0 0 0;p0 1 30 1 9;");
        edge.due("LAG ahead", x.passenger(0, 8), 9);
        x.horn(0);
        edge.due("LAG of one who owns", x.passenger(0, 8), 0);
        x.book(1, 0);
        x.horn(0);
        edge.due("OWNER", x.coach(0, 3), 1);
        edge.due("LAG of one who owns no more", x.passenger(0, 8), 9);
    }

    static void promise07_passenger_lagOfAnOldLadyByHorns() {
        LeftCoaches x = Check.of("l2 0;c0 1 0;p2 0 30 0 9;");
        for (int horn = 0; horn <= 7; horn++) {
            edge.due("LAG at HORN " + horn, x.passenger(0, 8), 30 + horn % 3);
            x.horn(0);
        }
        LeftCoaches last = Check.of("l3 2;c0 0 0;c2 1 0;c1 1 0;c1 0 9;p2 0 0 2 9;");
        for (int i = 0; i < 75; i++) {
            last.rounds(30);
        }
        edge.due("LAG at HORN 9000", last.passenger(0, 8), 0);
        last.horn(0);
        edge.due("LAG at HORN 9001", last.passenger(0, 8), 1);
    }

    static void promise07_passenger_lagOfATiedOneIsCut() {
        int[] slow = {0, 1, 2, 3, 29, 30};
        int[] half = {0, 0, 1, 1, 14, 15};
        for (int i = 0; i < slow.length; i++) {
            edge.due("LAG by SLOW " + slow[i], lag(3, slow[i], 0), half[i]);
        }
    }

    static void promise07_passenger_lagByLanternsIsZeroAtLeast() {
        int[] slow = {0, 4, 5, 6, 30};
        int[] want = {0, 0, 0, 1, 25};
        for (int i = 0; i < slow.length; i++) {
            edge.due("LAG by SLOW " + slow[i], lag(0, slow[i], 1), want[i]);
        }
        edge.due("LAG of a hider", lag(1, 0, 3), 4);
        edge.due("LAG of an old lady", lag(2, 5, 3), 0);
        edge.due("LAG of a tied one: half, then less", lag(3, 10, 3), 0);
        edge.due("LAG of a tied one: half, then less", lag(3, 13, 3), 1);
    }

    static void promise07_passenger_lagByLanternsAtTheInnItIsAt() {
        edge.due("LANTERNS at the other inn", lag(0, 30, 2), 30);
        LeftCoaches x = Check.of("l7 64;p0 6 30 0 9;p0 5 30 0 9;p0 0 30 0 9;");
        edge.due("LAG at the last inn", x.passenger(0, 8), 25);
        edge.due("LAG next to it", x.passenger(1, 8), 30);
        edge.due("LAG at the first inn", x.passenger(2, 8), 30);
        x.walk(1, true);
        edge.due("LAG when it has walked", x.passenger(1, 8), 25);
    }

    static void promise07_passenger_penceBelowZero() {
        LeftCoaches x = Check.of("l7 0;c0 1 0;p0 0 9 6 0;p0 0 0 6 0;");
        x.rounds(6);
        edge.due("who pays", x.passenger(1, 6), 99994);
        edge.due("who is paid", x.passenger(0, 6), 100006);
        edge.due("it has come", x.passenger(1, 1), 6);
        x.rounds(1);
        edge.due("pays no more", x.passenger(1, 6), 99994);
    }

    static void promise07_passenger_ownsNoneAndAll() {
        LeftCoaches x = Check.of("l2 0;" + FOUR_COACHES + "p0 0 1 0 0;");
        edge.due("OWNS", x.passenger(0, 7), 0);
        x.horn(0);
        edge.due("OWNS", x.passenger(0, 7), 1);
        x.book(0, 3);
        x.horn(3);
        edge.due("OWNS", x.passenger(0, 7), 9);
    }

    // ---- promise 8

    /** As many rows as told: horn i has row i, at inn 0 and 1 by turns. */
    private static LeftCoaches lefts(int rows) {
        LeftCoaches x = Check.of("l2 0;c0 1 0;p0 0 9 0 9;p0 1 9 1 9;");
        for (int horn = 0; horn < rows; horn++) {
            x.book(horn % 2, 0);
            x.horn(0);
        }
        return x;
    }

    private static void rowIs(LeftCoaches x, int i, int horn) {
        int[] want = {horn, 0, horn % 2, horn % 2, horn == 0 ? NONE : 1 - horn % 2};
        for (int what = 0; what <= 4; what++) {
            edge.due("lefts(" + i + ", " + what + ")", x.lefts(i, what), want[what]);
        }
    }

    static void promise08_lefts_emptyBook() {
        LeftCoaches x = lefts(0);
        for (int what = 0; what <= 4; what++) {
            edge.due("lefts(0, " + what + ")", x.lefts(0, what), NONE);
        }
        edge.due("lefts(0, 0) without a line", new LeftCoaches().lefts(0, 0), NONE);
    }

    static void promise08_lefts_oneRow() {
        LeftCoaches x = lefts(1);
        rowIs(x, 0, 0);
        edge.due("lefts(1, 0)", x.lefts(1, 0), NONE);
        edge.due("lefts(-1, 0)", x.lefts(-1, 0), NONE);
    }

    static void promise08_lefts_nineteenTwentyTwentyOne() {
        for (int rows = 19; rows <= 22; rows++) {
            LeftCoaches x = lefts(rows);
            edge.due("told(9)", x.told(9), Math.min(rows, 20));
            rowIs(x, 0, rows - 1);
            rowIs(x, 18, rows - 19);
            if (rows > 19) {
                rowIs(x, 19, rows - 20);
            } else {
                edge.due("lefts(19, 0)", x.lefts(19, 0), NONE);
            }
            edge.due("lefts(20, 0)", x.lefts(20, 0), NONE);
        }
    }

    static void promise08_lefts_twiceAround() {
        LeftCoaches x = lefts(41);
        for (int i = 0; i < 20; i++) {
            rowIs(x, i, 40 - i);
        }
        edge.due("lefts(20, 0)", x.lefts(20, 0), NONE);
    }

    static void promise08_lefts_farBeyondTheBook() {
        for (int i : new int[] {-1, 20, 21, Integer.MIN_VALUE, Integer.MAX_VALUE}) {
            edge.due("lefts(" + i + ", 4)", lefts(25).lefts(i, 4), NONE);
            edge.changesNothing("lefts(" + i + ", 4)", Edges::busy, x -> x.lefts(i, 4));
        }
    }

    static void promise08_lefts_whatWithinItsBounds() {
        edge.within("lefts(0, ..)", 0, 4, OUTSIDE, Edges::busy, (x, what) -> x.lefts(0, what));
        edge.within("lefts(99, ..)", 0, 4, OUTSIDE, Edges::busy, (x, what) -> x.lefts(99, what));
        edge.within("lefts(0, ..) without a line", 0, 4, OUTSIDE, Edges::lineless, (x, what) -> x.lefts(0, what));
    }

    static void promise08_lefts_noRowWhenNobodyIsLeft() {
        LeftCoaches x = Check.of("l2 0;c0 1 9;p0 0 9 1 0;");
        edge.due("horn(0)", x.horn(0), 0);
        edge.due("told(9)", x.told(9), 0);
    }

    static void promise08_lefts_oneRowHoweverManyAreLeft() {
        LeftCoaches x = Check.of("l2 0;c0 1 0;" + SEVEN.replace("p0 0 0 0 9", "p0 0 9 1 0"));
        edge.due("horn(0)", x.horn(0), 127);
        edge.due("told(9)", x.told(9), 1);
        rowIs(x, 0, 0);
    }

    static void promise08_lefts_theLastHornThatCanBe() {
        LeftCoaches x = Edges.hornsAtLast();
        x.undo();
        x.undo();
        x.slow(0, 30);
        x.book(0, 0);
        while (x.told(5) < 9000) {
            x.rounds(30);
        }
        x.walk(0, true);
        x.walk(0, true);
        x.book(0, 0);
        edge.due("INN", x.coach(0, 0), 2);
        edge.due("horn(0) at 9000", x.horn(0), 1);
        edge.due("HORN", x.lefts(0, 0), 9000);
        edge.due("INN", x.lefts(0, 2), 2);
    }
}
