import java.math.BigInteger;

/** The edges that promises 19 to 25 name, with those of what section 3 says of what is tried: one test for each. */
public final class Edges19to25Test {
    private static final int OUTSIDE = LeftCoaches.OUTSIDE, UNKNOWN = LeftCoaches.UNKNOWN, NONE = LeftCoaches.NONE;
    private static final int NOT = LeftCoaches.NOT;
    private static final Edges edge = new Edges("Edges19to25Test");

    public static void main(String[] args) throws IllegalAccessException {
        edge.run(Edges19to25Test.class, 19, 25);
    }

    // ---- promise 19

    static void promise19_left_coachThatThereIs() {
        edge.within("left(.., 0)", 0, 2, UNKNOWN, Edges::busy, (x, c) -> x.left(c, 0));
        edge.within("left(.., 1)", 0, 2, UNKNOWN, Edges::busy, (x, c) -> x.left(c, 1));
        edge.refused("left(0, 0) without a line", UNKNOWN, Edges::lineless, x -> x.left(0, 0));
    }

    static void promise19_left_whatWithinItsBounds() {
        edge.within("left(0, ..)", 0, 1, OUTSIDE, Edges::busy, (x, what) -> x.left(0, what));
        edge.within("left(2, ..)", 0, 1, OUTSIDE, Edges::busy, (x, what) -> x.left(2, what));
    }

    static void promise19_left_unknownGoesAheadOfOutside() {
        edge.refused("left(3, 2)", UNKNOWN, Edges::busy, x -> x.left(3, 2));
        edge.refused("left(-1, -1)", UNKNOWN, Edges::busy, x -> x.left(-1, -1));
    }

    static void promise19_left_changesNothing() {
        edge.changesNothing("left(1, 0)", Edges::aboutToLeave, x -> x.left(0, 0));
        edge.changesNothing("left(1, 1)", Edges::aboutToLeave, x -> x.left(0, 1));
    }

    static void promise19_left_nobodyAllAndTheOneJustTooSlow() {
        LeftCoaches x = Check.of("l3 0;c0 1 5;p0 0 5 2 0;p0 0 4 2 0;");
        edge.due("left(0, 0): nobody", x.left(0, 0), 0);
        edge.due("left(0, 1): as now", x.left(0, 1), NONE);
        x.slow(1, 6);
        edge.due("left(0, 0): one too slow by one", x.left(0, 0), 2);
        edge.due("left(0, 1)", x.left(0, 1), 1);
        x.waits(0, 0);
        edge.due("left(0, 0): all", x.left(0, 0), 3);
        edge.due("left(0, 1): the slowest", x.left(0, 1), 1);
        x.slow(0, 6);
        edge.due("left(0, 1): of like ones the least", x.left(0, 1), 0);
    }

    static void promise19_left_asNowIfNobodyIs() {
        LeftCoaches x = Check.of("l3 0;c0 1 5;p0 0 9 2 0;p0 0 1 2 9;");
        x.horn(0);
        edge.due("left(0, 0)", x.left(0, 0), 0);
        edge.due("left(0, 1)", x.left(0, 1), 0);
    }

    static void promise19_left_ofFullHorns() {
        LeftCoaches x = Edges.hornsFull();
        x.book(1, 1);
        x.waits(1, 0);
        edge.due("left(1, 0)", x.left(1, 0), 2);
        edge.due("left(1, 1)", x.left(1, 1), 1);
    }

    static void promise19_left_isWhatTheHornDoes() {
        for (int c = 0; c < 3; c++) {
            LeftCoaches x = Edges.busy();
            int left = x.left(c, 0);
            int owner = x.left(c, 1);
            edge.due("horn(" + c + ")", x.horn(c), left);
            edge.due("OWNER of " + c, x.coach(c, 3), owner);
        }
    }

    // ---- promise 20

    static void promise20_behind_passengerThatThereIs() {
        edge.within("behind(.., 3, 0)", 0, 4, UNKNOWN, Edges::busy, (x, p) -> x.behind(p, 3, 0));
        edge.refused("behind(0, 0, 0) without a line", UNKNOWN, Edges::lineless, x -> x.behind(0, 0, 0));
    }

    static void promise20_behind_roundsWithinTheirBounds() {
        for (int what = 0; what <= 2; what++) {
            int asked = what;
            edge.within("behind(1, .., " + what + ")", 0, 60, OUTSIDE, Edges::busy, (x, n) -> x.behind(1, n, asked));
        }
    }

    static void promise20_behind_whatWithinItsBounds() {
        edge.within("behind(1, 0, ..)", 0, 2, OUTSIDE, Edges::busy, (x, what) -> x.behind(1, 0, what));
        edge.within("behind(1, 60, ..)", 0, 2, OUTSIDE, Edges::busy, (x, what) -> x.behind(1, 60, what));
    }

    static void promise20_behind_unknownGoesAheadOfOutside() {
        edge.refused("behind(5, 61, 0)", UNKNOWN, Edges::busy, x -> x.behind(5, 61, 0));
        edge.refused("behind(5, 0, 3)", UNKNOWN, Edges::busy, x -> x.behind(5, 0, 3));
        edge.refused("behind(-1, -1, -1)", UNKNOWN, Edges::busy, x -> x.behind(-1, -1, -1));
    }

    static void promise20_behind_changesNothing() {
        for (int what = 0; what <= 2; what++) {
            int asked = what;
            edge.changesNothing("behind(0, 60, " + what + ")", Edges::busy, x -> x.behind(0, 60, asked));
        }
    }

    static void promise20_behind_noRoundIsNow() {
        LeftCoaches x = Edges.busy();
        edge.due("WHERE in a coach", x.behind(0, 0, 0), 1);
        edge.due("WHERE at an inn", x.behind(4, 0, 0), 4);
        edge.due("OWNS", x.behind(4, 0, 1), 2);
        edge.due("OWNS none", x.behind(0, 0, 1), 0);
        edge.due("PENCE below 0", x.behind(0, 0, 2), 99999);
    }

    static void promise20_behind_sixtyRoundsAreTwiceThirty() {
        for (int p = 0; p < 5; p++) {
            LeftCoaches x = Edges.busy();
            int where = x.behind(p, 60, 0);
            int owns = x.behind(p, 60, 1);
            int pence = x.behind(p, 60, 2);
            x.rounds(30);
            x.rounds(30);
            int coach = x.passenger(p, 2);
            edge.due("WHERE of " + p, where, coach == NONE ? x.passenger(p, 1) : x.coach(coach, 0));
            edge.due("OWNS of " + p, owns, x.passenger(p, 7));
            edge.due("PENCE of " + p, pence, x.passenger(p, 6));
        }
    }

    static void promise20_behind_turnsAtTheEndsOnTheWay() {
        LeftCoaches x = Check.of("l3 0;c0 1 5;p0 0 0 0 0;");
        int[] where = {0, 1, 2, 1, 0, 0};
        for (int n = 0; n < where.length; n++) {
            edge.due("WHERE behind " + n, x.behind(0, n, 0), where[n]);
        }
    }

    static void promise20_behind_ofFullHorns() {
        LeftCoaches x = Edges.hornsFull();
        edge.due("WHERE", x.behind(0, 60, 0), 0);
        edge.due("OWNS", x.behind(0, 60, 1), 1);
        edge.due("HORNS", x.told(5), 9001);
    }

    static void promise20_behind_withoutCoaches() {
        LeftCoaches x = Check.of("l3 0;p0 2 0 0 9;");
        edge.due("WHERE", x.behind(0, 60, 0), 2);
        edge.due("OWNS", x.behind(0, 60, 1), 0);
        edge.due("PENCE", x.behind(0, 60, 2), 100000);
    }

    // ---- promise 21

    static void promise21_comes_passengerThatThereIs() {
        edge.within("comes", 0, 4, UNKNOWN, Edges::busy, LeftCoaches::comes);
        edge.refused("comes(0) without a line", UNKNOWN, Edges::lineless, x -> x.comes(0));
    }

    static void promise21_comes_changesNothing() {
        edge.changesNothing("comes(0)", Edges::busy, x -> x.comes(0));
        edge.changesNothing("comes(2)", Edges::busy, x -> x.comes(2));
    }

    static void promise21_comes_itIsThere() {
        edge.due("comes(0)", Check.of("l2 0;p0 1 0 1 9;").comes(0), 0);
        edge.due("comes(0), though BOOKED", Check.of("l2 0;c1 1 5;p0 1 0 1 0;").comes(0), 0);
    }

    static void promise21_comes_behindOneRound() {
        edge.due("comes(0)", Check.of("l2 0;c0 1 5;p0 0 0 1 0;").comes(0), 1);
    }

    /** The coach has just left the upper end, and goes all the line down, up, and down again: none takes longer. */
    static void promise21_comes_theLongestWay() {
        edge.due("comes(0)", Check.of("l7 0;c5 0 5;p0 6 0 0 0;").comes(0), 17);
        int longest = 0;
        for (int coach = 0; coach < 14; coach++) {
            for (int inn = 0; inn < 7; inn++) {
                for (int wanted = 0; wanted < 7; wanted++) {
                    String text = "l7 0;c" + coach / 2 + " " + coach % 2 + " 5;p0 " + inn + " 0 " + wanted + " 0;";
                    int comes = Check.of(text).comes(0);
                    edge.due(text + " comes", comes == NONE ? 1 : 0, 0);
                    longest = Math.max(longest, comes);
                }
            }
        }
        edge.due("the longest", longest, 17);
    }

    static void promise21_comes_never() {
        edge.due("comes(0): BOOKED on none", Check.of("l2 0;c0 1 5;p0 0 0 1 9;").comes(0), NONE);
        edge.due("comes(0): LEFT", Check.of("l2 0;c0 1 5;p0 0 6 1 0;").comes(0), NONE);
        edge.due("comes(0): just in time", Check.of("l2 0;c0 1 5;p0 0 5 1 0;").comes(0), 1);
        edge.due("comes(0): no coach", Check.of("l2 0;p0 0 0 1 9;").comes(0), NONE);
    }

    static void promise21_comes_fromWithinACoach() {
        LeftCoaches x = Check.of("l3 0;c0 1 5;p0 0 0 0 0;");
        x.horn(0);
        edge.due("comes(0)", x.comes(0), 3);
        x.horn(0);
        edge.due("comes(0)", x.comes(0), 2);
        x.horn(0);
        edge.due("comes(0)", x.comes(0), 1);
        x.horn(0);
        edge.due("comes(0)", x.comes(0), 0);
    }

    static void promise21_comes_ofFullHorns() {
        LeftCoaches x = Edges.hornsFull();
        edge.due("INN of 1", x.coach(1, 0), 0);
        edge.due("comes(0)", x.comes(0), NONE);
        x.book(0, 1);
        x.waits(1, 9);
        edge.due("comes(0)", x.comes(0), 2);
    }

    // ---- promise 22

    static void promise22_leastWait_coachThatThereIs() {
        edge.within("leastWait", 0, 2, UNKNOWN, Edges::busy, LeftCoaches::leastWait);
        edge.refused("leastWait(0) without a line", UNKNOWN, Edges::lineless, x -> x.leastWait(0));
    }

    static void promise22_leastWait_changesNothing() {
        edge.changesNothing("leastWait(0)", Edges::aboutToLeave, x -> x.leastWait(0));
    }

    static void promise22_leastWait_zeroForNobody() {
        edge.due("nobody", Check.of("l2 0;c0 1 30;").leastWait(0), 0);
        edge.due("nobody BOOKED", Check.of("l2 0;c0 1 30;p0 0 30 1 9;").leastWait(0), 0);
        edge.due("nobody at the inn", Check.of("l2 0;c0 1 30;p0 1 30 1 0;").leastWait(0), 0);
        edge.due("one who is quick", Check.of("l2 0;c0 1 30;p0 0 0 1 0;").leastWait(0), 0);
    }

    static void promise22_leastWait_theGreatestThereCanBe() {
        LeftCoaches x = Check.of("l2 0;c0 1 0;p1 0 30 1 0;p0 0 30 1 0;p3 0 30 1 0;");
        edge.due("leastWait(0)", x.leastWait(0), 39);
        x.waits(0, 39);
        edge.due("left(0, 0)", x.left(0, 0), 0);
        x.waits(0, 38);
        edge.due("left(0, 0)", x.left(0, 0), 1);
    }

    static void promise22_leastWait_ofAllSeven() {
        String text = "l2 0;c0 1 0;";
        for (int p = 0; p < 7; p++) {
            text += "p0 0 " + (p + 10) + " 1 0;";
            edge.due("leastWait(0) of " + (p + 1), Check.of(text).leastWait(0), p + 10);
        }
    }

    static void promise22_leastWait_ofFewerThanOnTheLineAhead() {
        LeftCoaches x = Check.of("l2 0;c0 1 0;p0 0 1 1 0;p0 0 30 1 0;p0 0 30 1 0;");
        Check.feed(x, "l2 0;c0 1 0;p0 0 1 1 0;");
        x.line();
        edge.due("leastWait(0)", x.leastWait(0), 1);
        edge.due("left(0, 0)", x.left(0, 0), 1);
        edge.due("lights(1)", x.lights(1), 1);
    }

    static void promise22_leastWait_whateverTheWaitIsNow() {
        LeftCoaches x = Check.of("l2 0;c0 1 0;p0 0 7 1 0;");
        edge.due("leastWait(0) by WAIT 0", x.leastWait(0), 7);
        x.waits(0, 50);
        edge.due("leastWait(0) by WAIT 50", x.leastWait(0), 7);
    }

    static void promise22_leastWait_oneInItIsNotWaitedFor() {
        LeftCoaches x = Check.of("l3 0;c0 1 30;p0 0 30 2 0;p0 1 4 2 0;");
        edge.due("leastWait(0)", x.leastWait(0), 30);
        x.horn(0);
        edge.due("leastWait(0)", x.leastWait(0), 4);
    }

    static void promise22_leastWait_byLanternsAndHorns() {
        LeftCoaches x = Check.of("l2 1;c0 1 0;c1 1 0;p2 0 4 1 0;");
        edge.due("leastWait(0)", x.leastWait(0), 0);
        x.horn(1);
        edge.due("leastWait(0)", x.leastWait(0), 0);
        x.horn(1);
        edge.due("leastWait(0)", x.leastWait(0), 1);
        x.light(0);
        edge.due("leastWait(0)", x.leastWait(0), 6);
    }

    // ---- promise 23

    static void promise23_lights_roundsWithinTheirBounds() {
        edge.within("lights", 1, 20, OUTSIDE, Edges::busy, LeftCoaches::lights);
    }

    static void promise23_lights_withoutALine() {
        edge.refused("lights(1) without a line", NOT, Edges::lineless, x -> x.lights(1));
        edge.refused("lights(20) without a line", NOT, Edges::lineless, x -> x.lights(20));
    }

    static void promise23_lights_outsideGoesAheadOfNot() {
        edge.refused("lights(0) without a line", OUTSIDE, Edges::lineless, x -> x.lights(0));
        edge.refused("lights(21) without a line", OUTSIDE, Edges::lineless, x -> x.lights(21));
    }

    static void promise23_lights_changesNothing() {
        edge.changesNothing("lights(20)", Edges::busy, x -> x.lights(20));
        edge.changesNothing("lights(1)", Edges::aboutToLeave, x -> x.lights(1));
    }

    static void promise23_lights_fiveMoreThanTheWaitAndSix() {
        edge.due("LAG is WAIT", Check.of("l2 0;c0 1 5;p0 0 5 1 0;").lights(1), 0);
        edge.due("LAG is 1 more", Check.of("l2 0;c0 1 5;p0 0 6 1 0;").lights(1), 1);
        edge.due("LAG is 5 more", Check.of("l2 0;c0 1 5;p0 0 10 1 0;").lights(1), 1);
        edge.due("LAG is 6 more", Check.of("l2 0;c0 1 5;p0 0 11 1 0;").lights(1), NONE);
    }

    static void promise23_lights_noInnAtAll() {
        edge.due("without coaches", Check.of("l7 127;p0 0 30 1 9;").lights(20), 0);
        edge.due("without passengers", Check.of("l7 127;c0 1 0;").lights(20), 0);
        edge.due("inns alone", Check.of("l7 127;").lights(20), 0);
        edge.due("in place of those there are", Check.of("l2 3;c0 1 5;p0 0 5 1 0;").lights(20), 0);
    }

    static void promise23_lights_allSevenInns() {
        LeftCoaches x = Check.of("l7 0;c0 1 0;p0 0 1 6 0;p0 1 2 6 0;p0 2 3 6 0;p0 3 4 6 0;p0 4 5 6 0;p0 5 5 6 0;p0 6 5 0 0;");
        edge.due("lights(6)", x.lights(6), 63);
        edge.due("lights(7)", x.lights(7), 127);
        edge.due("lights(20)", x.lights(20), 127);
        x.slow(6, 6);
        edge.due("lights(6)", x.lights(6), 63);
        edge.due("lights(7)", x.lights(7), NONE);
    }

    /** The coach has just left the first inn: it blows there again in the twelfth round. */
    static void promise23_lights_inTheLastRoundAndOneBehindIt() {
        LeftCoaches x = Check.of("l7 0;c0 1 0;p0 0 30 1 9;");
        x.horn(0);
        x.slow(0, 4);
        x.book(0, 0);
        edge.due("lights(11)", x.lights(11), 0);
        edge.due("lights(12)", x.lights(12), 1);
        x.slow(0, 6);
        edge.due("lights(11)", x.lights(11), 0);
        edge.due("lights(12)", x.lights(12), NONE);
        edge.due("lights(20)", x.lights(20), NONE);
    }

    static void promise23_lights_oldLadyByTheHornsToCome() {
        LeftCoaches x = Check.of("l3 0;c0 1 5;p2 2 4 0 0;");
        edge.due("lights(2)", x.lights(2), 0);
        edge.due("lights(3)", x.lights(3), 4);
        x.slow(0, 8);
        edge.due("lights(3)", x.lights(3), 4);
        x.slow(0, 9);
        edge.due("lights(3)", x.lights(3), NONE);
    }

    static void promise23_lights_ofFullHorns() {
        LeftCoaches x = Edges.hornsFull();
        edge.due("lights(20)", x.lights(20), 0);
        x.slow(1, 3);
        x.book(1, 1);
        edge.due("INN of 1", x.coach(1, 0), x.passenger(1, 1));
        edge.due("lights(20)", x.lights(20), 1);
    }

    // ---- promise 24

    static void promise24_scheme_passengerThatThereIs() {
        edge.within("scheme(.., 1, 0)", 0, 4, UNKNOWN, Edges::busy, (x, p) -> x.scheme(p, 1, 0));
        edge.refused("scheme(0, 1, 0) without a line", UNKNOWN, Edges::lineless, x -> x.scheme(0, 1, 0));
    }

    static void promise24_scheme_roundsWithinTheirBounds() {
        edge.within("scheme(1, .., 0)", 1, 20, OUTSIDE, Edges::busy, (x, n) -> x.scheme(1, n, 0));
        edge.within("scheme(1, .., 1)", 1, 20, OUTSIDE, Edges::busy, (x, n) -> x.scheme(1, n, 1));
    }

    static void promise24_scheme_whatWithinItsBounds() {
        edge.within("scheme(1, 1, ..)", 0, 1, OUTSIDE, Edges::busy, (x, what) -> x.scheme(1, 1, what));
    }

    static void promise24_scheme_unknownGoesAheadOfOutside() {
        edge.refused("scheme(5, 0, 0)", UNKNOWN, Edges::busy, x -> x.scheme(5, 0, 0));
        edge.refused("scheme(5, 1, 2)", UNKNOWN, Edges::busy, x -> x.scheme(5, 1, 2));
        edge.refused("scheme(-1, 21, -1)", UNKNOWN, Edges::busy, x -> x.scheme(-1, 21, -1));
    }

    static void promise24_scheme_changesNothing() {
        edge.changesNothing("scheme(2, 20, 0)", Edges::busy, x -> x.scheme(2, 20, 0));
        edge.changesNothing("scheme(1, 20, 1)", Edges::busy, x -> x.scheme(1, 20, 1));
    }

    static void promise24_scheme_ofLikeOnesTheLeast() {
        LeftCoaches x = Check.of("l2 0;c0 1 5;p0 0 20 1 9;");
        edge.due("nothing to own", x.scheme(0, 20, 0), 0);
        edge.due("how many", x.scheme(0, 20, 1), 0);
        x.book(0, 0);
        edge.due("just slow enough", x.scheme(0, 1, 0), 6);
        edge.due("how many", x.scheme(0, 1, 1), 1);
    }

    static void promise24_scheme_theGreatestSlowThereIs() {
        LeftCoaches x = Check.of("l2 0;c0 1 29;p0 0 0 1 0;");
        edge.due("30 is slow enough", x.scheme(0, 1, 0), 30);
        edge.due("how many", x.scheme(0, 1, 1), 1);
        x.waits(0, 30);
        edge.due("none is slow enough", x.scheme(0, 1, 0), 0);
        edge.due("how many", x.scheme(0, 1, 1), 0);
    }

    static void promise24_scheme_zeroIsSlowEnough() {
        LeftCoaches x = Check.of("l2 0;c0 1 8;p1 0 30 1 0;");
        edge.due("a hider", x.scheme(0, 1, 0), 0);
        edge.due("how many", x.scheme(0, 1, 1), 1);
        x.waits(0, 9);
        edge.due("a hider", x.scheme(0, 1, 0), 1);
    }

    static void promise24_scheme_ofLikeOnesTheOneWithMostPence() {
        LeftCoaches x = Check.of("l4 0;c0 1 5;p0 0 0 3 0;p0 0 9 3 0;");
        edge.due("1 is paid by 0", x.scheme(1, 3, 0), 6);
        edge.due("0 owns it by 9, of like ones the least", x.scheme(0, 3, 0), 9);
        x.slow(1, 30);
        edge.due("0 owns it by 30", x.scheme(0, 3, 0), 30);
        x = Check.of("l4 0;c0 1 5;p0 0 0 3 0;p1 0 30 3 0;");
        edge.due("0 cannot own it, but need not pay", x.scheme(0, 3, 0), 6);
        edge.due("how many", x.scheme(0, 3, 1), 0);
    }

    static void promise24_scheme_theCoachItOwnsAlreadyAndOneMore() {
        LeftCoaches x = Check.of("l3 0;c0 1 5;c0 1 9;p0 0 6 2 0;");
        edge.due("how many", x.scheme(0, 20, 1), 1);
        x.horn(0);
        x.book(0, 1);
        edge.due("how many", x.scheme(0, 1, 1), 2);
        edge.due("by", x.scheme(0, 1, 0), 10);
    }

    static void promise24_scheme_ofFullHorns() {
        LeftCoaches x = Edges.hornsFull();
        x.book(1, 1);
        edge.due("by", x.scheme(1, 1, 0), 1);
        edge.due("how many", x.scheme(1, 1, 1), 1);
    }

    // ---- promise 25

    static void promise25_clear_daysWithinTheirBounds() {
        edge.within("clear(.., 50)", 0, 60, OUTSIDE, Edges::busy, (x, n) -> x.clear(n, 50));
        edge.within("clear(.., 100)", 0, 60, OUTSIDE, Edges::lineless, (x, n) -> x.clear(n, 100));
    }

    static void promise25_clear_oddsWithinTheirBounds() {
        edge.within("clear(0, ..)", 0, 100, OUTSIDE, Edges::busy, (x, q) -> x.clear(0, q));
        edge.within("clear(60, ..)", 0, 100, OUTSIDE, Edges::busy, (x, q) -> x.clear(60, q));
    }

    static void promise25_clear_noDayAndNoOdds() {
        LeftCoaches x = new LeftCoaches();
        edge.due("clear(0, 0)", x.clear(0, 0), 1000000000);
        edge.due("clear(0, 100)", x.clear(0, 100), 1000000000);
        edge.due("clear(1, 0)", x.clear(1, 0), 0);
        edge.due("clear(60, 0)", x.clear(60, 0), 0);
        edge.due("clear(1, 100)", x.clear(1, 100), 1000000000);
        edge.due("clear(60, 100)", x.clear(60, 100), 1000000000);
    }

    static void promise25_clear_oneOfAHundred() {
        LeftCoaches x = new LeftCoaches();
        int[] want = {1000000000, 10000000, 100000, 1000, 10, 0, 0};
        for (int n = 0; n < want.length; n++) {
            edge.due("clear(" + n + ", 1)", x.clear(n, 1), want[n]);
        }
    }

    static void promise25_clear_isCutEachTime() {
        for (int q = 0; q <= 100; q++) {
            LeftCoaches x = new LeftCoaches();
            BigInteger odds = BigInteger.valueOf(1000000000);
            for (int n = 0; n <= 60; n++) {
                edge.due("clear(" + n + ", " + q + ")", x.clear(n, q), odds.longValue());
                odds = odds.multiply(BigInteger.valueOf(q)).divide(BigInteger.valueOf(100));
            }
        }
    }

    static void promise25_clear_changesNothing() {
        edge.changesNothing("clear(60, 99)", Edges::busy, x -> x.clear(60, 99));
    }
}
