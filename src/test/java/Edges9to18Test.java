import java.math.BigInteger;

/** The edges that promises 9 to 18 name, with those of section 2, the horn: one test for each. */
public final class Edges9to18Test {
    private static final int OUTSIDE = LeftCoaches.OUTSIDE, UNKNOWN = LeftCoaches.UNKNOWN, NONE = LeftCoaches.NONE;
    private static final int NOT = LeftCoaches.NOT, FULL = LeftCoaches.FULL;
    private static final Edges edge = new Edges("Edges9to18Test");

    public static void main(String[] args) throws IllegalAccessException {
        edge.run(Edges9to18Test.class, 9, 18);
    }

    // ---- promise 9: who gets in, who is left, who owns

    static void promise09_horn_lagAsLongAsTheWaitGetsIn() {
        int[] waits = {0, 1, 29, 30};
        for (int wait : waits) {
            LeftCoaches x = Check.of("l3 0;c0 1 " + wait + ";p0 0 " + wait + " 2 0;");
            edge.due("horn(0) by WAIT " + wait, x.horn(0), 0);
            edge.due("in it", x.coach(0, 4), 1);
            edge.due("OWNER", x.coach(0, 3), NONE);
        }
    }

    static void promise09_horn_lagOneLongerIsLeft() {
        int[] waits = {0, 1, 28, 29};
        for (int wait : waits) {
            LeftCoaches x = Check.of("l3 0;c0 1 " + wait + ";p0 0 " + (wait + 1) + " 2 0;");
            edge.due("horn(0) by WAIT " + wait, x.horn(0), 1);
            edge.due("in it", x.coach(0, 4), 0);
            edge.due("OWNER", x.coach(0, 3), 0);
            edge.due("BOOKED no more", x.passenger(0, 5), NONE);
            edge.due("INN", x.passenger(0, 1), 0);
        }
    }

    static void promise09_horn_theGreatestLagThereCanBe() {
        LeftCoaches x = Check.of("l3 0;c0 1 30;p1 0 30 2 0;");
        x.waits(0, 38);
        edge.due("left(0, 0) by WAIT 38", x.left(0, 0), 1);
        x.waits(0, 39);
        edge.due("horn(0) by WAIT 39", x.horn(0), 0);
        edge.due("in it", x.coach(0, 4), 1);
    }

    static void promise09_horn_ofLikeLagsTheLeast() {
        LeftCoaches x = Check.of("l3 0;c0 1 3;p0 0 4 2 0;p0 0 9 2 0;p0 0 9 2 0;p1 0 0 2 0;");
        edge.due("horn(0)", x.horn(0), 15);
        edge.due("OWNER", x.coach(0, 3), 1);
        edge.due("the new OWNER", x.lefts(0, 3), 1);
    }

    static void promise09_horn_theGreatestLagNotTheGreatestSlow() {
        LeftCoaches x = Check.of("l3 0;c0 1 3;p3 0 30 2 0;p1 0 7 2 0;p0 0 15 2 0;");
        edge.due("horn(0)", x.horn(0), 7);
        edge.due("OWNER", x.coach(0, 3), 1);
    }

    static void promise09_horn_onlyThoseBookedOnItAtItsInn() {
        LeftCoaches x = Check.of("l3 0;c1 1 0;c1 1 0;p0 0 9 2 0;p0 2 9 2 0;p0 1 9 2 1;p0 1 9 2 9;p0 1 9 2 0;");
        edge.due("horn(0)", x.horn(0), 16);
        edge.due("BOOKED on it still", x.coach(0, 5), 3);
        edge.due("BOOKED on the other still", x.coach(1, 5), 4);
    }

    static void promise09_horn_nobodyIsLeftAndTheOwnerStays() {
        LeftCoaches x = Check.of("l3 0;c0 1 3;p0 0 4 2 0;");
        x.horn(0);
        edge.due("horn(0)", x.horn(0), 0);
        edge.due("OWNER", x.coach(0, 3), 0);
        edge.due("lefts", x.told(9), 1);
    }

    static void promise09_horn_whoIsLeftAnewIsTheOwnerInPlaceOfWhoWas() {
        LeftCoaches x = Check.of("l3 0;c0 1 3;p0 0 30 2 0;p0 1 4 2 0;");
        x.horn(0);
        edge.due("OWNER", x.coach(0, 3), 0);
        edge.due("horn(0)", x.horn(0), 2);
        edge.due("OWNER", x.coach(0, 3), 1);
        edge.due("who was it ahead", x.lefts(0, 4), 0);
        edge.due("who was it ahead, at first", x.lefts(1, 4), NONE);
    }

    /** The hider's lag is read ahead of this horn, by which it comes to own a coach. */
    static void promise09_horn_lagAsItIsAheadOfThis() {
        LeftCoaches x = Check.of("l3 0;c0 1 10;p1 0 3 2 0;p1 0 2 2 0;");
        edge.due("horn(0)", x.horn(0), 3);
        edge.due("OWNER", x.coach(0, 3), 0);
        edge.due("LAG of the OWNER then", x.passenger(0, 8), 3);
        edge.due("LAG of the other then", x.passenger(1, 8), 11);
    }

    static void promise09_horn_oldLadyByTheHornsAheadOfThis() {
        LeftCoaches x = Check.of("l2 0;c0 1 5;c0 1 5;c0 1 5;p2 0 4 0 0;p2 0 4 0 1;p2 0 4 0 2;");
        edge.due("at HORN 0", x.horn(0), 0);
        edge.due("at HORN 1", x.horn(1), 0);
        edge.due("at HORN 2", x.horn(2), 4);
    }

    static void promise09_horn_lanternsAtTheInn() {
        LeftCoaches x = Check.of("l2 1;c0 1 5;c0 1 5;p0 0 10 0 0;p0 0 11 0 1;");
        edge.due("LAG 5 less", x.horn(0), 0);
        edge.due("LAG 5 less is one too much", x.horn(1), 2);
    }

    // ---- promise 9: where it goes, who pays, who gets out

    static void promise09_horn_turnsAtTheUpperEnd() {
        for (int inns = 2; inns <= 7; inns++) {
            LeftCoaches x = Check.of("l" + inns + " 0;c" + (inns - 1) + " 1 0;");
            x.horn(0);
            edge.due("INN of " + inns, x.coach(0, 0), inns - 2);
            edge.due("way", x.coach(0, 1), 0);
        }
    }

    static void promise09_horn_turnsAtTheLowerEnd() {
        for (int inns = 2; inns <= 7; inns++) {
            LeftCoaches x = Check.of("l" + inns + " 0;c0 0 0;");
            x.horn(0);
            edge.due("INN of " + inns, x.coach(0, 0), 1);
            edge.due("way", x.coach(0, 1), 1);
        }
    }

    /** It turns when it goes, not when it comes: at the end it still goes the way that it came. */
    static void promise09_horn_doesNotTurnAheadOfTime() {
        LeftCoaches x = Check.of("l3 0;c1 1 0;c1 0 0;");
        x.horn(0);
        edge.due("INN", x.coach(0, 0), 2);
        edge.due("way at the upper end", x.coach(0, 1), 1);
        x.horn(1);
        edge.due("INN", x.coach(1, 0), 0);
        edge.due("way at the lower end", x.coach(1, 1), 0);
    }

    static void promise09_horn_doesNotTurnAtAnEndThatItLeaves() {
        LeftCoaches x = Check.of("l3 0;c0 1 0;c2 0 0;");
        x.horn(0);
        edge.due("INN", x.coach(0, 0), 1);
        edge.due("way", x.coach(0, 1), 1);
        x.horn(1);
        edge.due("INN", x.coach(1, 0), 1);
        edge.due("way", x.coach(1, 1), 0);
    }

    static void promise09_horn_thereAndBackOnTheShortestLine() {
        LeftCoaches x = Check.of("l2 0;c0 1 0;");
        for (int i = 1; i <= 6; i++) {
            x.horn(0);
            edge.due("INN", x.coach(0, 0), i % 2);
            edge.due("way", x.coach(0, 1), i % 2);
        }
    }

    static void promise09_horn_thereAndBackOnTheLongestLine() {
        LeftCoaches x = Check.of("l7 0;c0 1 0;");
        for (int i = 1; i <= 24; i++) {
            x.horn(0);
            edge.due("INN", x.coach(0, 0), 6 - Math.abs(6 - i % 12));
        }
    }

    static void promise09_horn_theOwnerInItPaysNothing() {
        LeftCoaches x = Check.of("l4 0;c0 1 5;p0 0 6 3 0;p0 0 1 3 0;");
        x.horn(0);
        x.walk(0, true);
        x.slow(0, 0);
        x.book(0, 0);
        x.horn(0);
        edge.due("in it", x.coach(0, 4), 3);
        edge.due("the OWNER", x.passenger(0, 6), 100002);
        edge.due("the other", x.passenger(1, 6), 99998);
    }

    static void promise09_horn_nobodyOwnsNobodyPays() {
        LeftCoaches x = Check.of("l4 0;c0 1 5;p0 0 1 3 0;p0 0 1 3 0;");
        x.horn(0);
        edge.due("PENCE", x.passenger(0, 6), 100000);
        edge.due("PENCE", x.passenger(1, 6), 100000);
    }

    static void promise09_horn_paysTheNewOwnerAtOnce() {
        LeftCoaches x = Check.of("l4 0;c0 1 5;p0 0 6 3 0;p0 0 1 3 0;p0 1 7 3 0;");
        x.horn(0);
        edge.due("the first OWNER", x.passenger(0, 6), 100001);
        x.horn(0);
        edge.due("the first OWNER", x.passenger(0, 6), 100001);
        edge.due("the new OWNER", x.passenger(2, 6), 100001);
        edge.due("who is in it", x.passenger(1, 6), 99998);
    }

    static void promise09_horn_sixPayOne() {
        LeftCoaches x = Check.of("l3 0;c0 1 5;p0 0 1 2 0;p0 0 1 2 0;p0 0 1 2 0;p0 0 9 2 0;p0 0 1 2 0;p0 0 1 2 0;p0 0 1 2 0;");
        edge.due("horn(0)", x.horn(0), 8);
        edge.due("the OWNER", x.passenger(3, 6), 100006);
        edge.due("the first", x.passenger(0, 6), 99999);
        edge.due("the last", x.passenger(6, 6), 99999);
    }

    static void promise09_horn_paysAtTheInnWhereItGetsOut() {
        LeftCoaches x = Check.of("l3 0;c0 1 5;p0 0 1 1 0;p0 0 9 2 0;");
        x.horn(0);
        edge.due("PENCE", x.passenger(0, 6), 99999);
        edge.due("INN", x.passenger(0, 1), 1);
        edge.due("BOOKED", x.passenger(0, 5), NONE);
        x.horn(0);
        edge.due("PENCE", x.passenger(0, 6), 99999);
    }

    static void promise09_horn_whoWantsToBeWhereItIsGoesRound() {
        LeftCoaches x = Check.of("l2 0;c0 1 5;p0 0 1 0 0;");
        x.horn(0);
        edge.due("in it", x.passenger(0, 2), 0);
        edge.due("BOOKED", x.passenger(0, 5), 0);
        x.horn(0);
        edge.due("in none", x.passenger(0, 2), NONE);
        edge.due("INN", x.passenger(0, 1), 0);
        edge.due("BOOKED", x.passenger(0, 5), NONE);
    }

    static void promise09_horn_onlyThoseInItGetOut() {
        LeftCoaches x = Check.of("l3 0;c0 1 5;c0 1 5;p0 0 1 1 0;p0 0 1 1 1;p0 1 1 1 0;");
        x.horn(0);
        edge.due("who was in it", x.passenger(0, 5), NONE);
        edge.due("who is at the inn, BOOKED on the other", x.passenger(1, 5), 1);
        edge.due("who is at that inn already", x.passenger(2, 5), 0);
    }

    // ---- promise 9: refusals

    static void promise09_horn_ofACoachThatThereIs() {
        edge.within("horn", 0, 2, UNKNOWN, Edges::busy, LeftCoaches::horn);
        edge.refused("horn(0) without a line", UNKNOWN, Edges::lineless, x -> x.horn(0));
        edge.refused("horn(0) without coaches", UNKNOWN, () -> Check.of("l2 0;p0 0 0 0 9;"), x -> x.horn(0));
    }

    static void promise09_horn_theLastHornAndTheFirstTooMany() {
        LeftCoaches x = Edges.hornsAtLast();
        edge.due("HORNS", x.told(5), 9000);
        edge.due("horn(0) at 9000", x.horn(0), 0);
        edge.due("HORNS", x.told(5), 9001);
        for (int c = 0; c < 4; c++) {
            int coach = c;
            edge.refused("horn(" + c + ") at 9001", FULL, Edges::hornsFull, y -> y.horn(coach));
        }
    }

    static void promise09_horn_unknownGoesAheadOfFull() {
        edge.refused("horn(4) at 9001", UNKNOWN, Edges::hornsFull, x -> x.horn(4));
        edge.refused("horn(-1) at 9001", UNKNOWN, Edges::hornsFull, x -> x.horn(-1));
    }

    // ---- promise 10

    static void promise10_rounds_withinTheirBounds() {
        edge.within("rounds", 1, 30, OUTSIDE, Edges::busy, LeftCoaches::rounds);
        edge.due("rounds(1)", Edges.busy().rounds(1), 2 + 3);
        edge.due("rounds(30)", Edges.busy().rounds(30), 2 + 90);
    }

    static void promise10_rounds_withoutALine() {
        edge.refused("rounds(1) without a line", NOT, Edges::lineless, x -> x.rounds(1));
        edge.refused("rounds(30) without a line", NOT, Edges::lineless, x -> x.rounds(30));
    }

    static void promise10_rounds_outsideGoesAheadOfNot() {
        edge.refused("rounds(0) without a line", OUTSIDE, Edges::lineless, x -> x.rounds(0));
        edge.refused("rounds(31) without a line", OUTSIDE, Edges::lineless, x -> x.rounds(31));
    }

    static void promise10_rounds_theLastHornAndTheFirstTooMany() {
        edge.due("rounds(1) at 9000", Edges.hornsAtLast().rounds(1), 9004);
        edge.due("rounds(30) at 9000", Edges.hornsAtLast().rounds(30), 9120);
        edge.refused("rounds(1) at 9001", FULL, Edges::hornsFull, x -> x.rounds(1));
        edge.refused("rounds(30) at 9001", FULL, Edges::hornsFull, x -> x.rounds(30));
    }

    static void promise10_rounds_outsideGoesAheadOfFull() {
        edge.refused("rounds(0) at 9001", OUTSIDE, Edges::hornsFull, x -> x.rounds(0));
        edge.refused("rounds(31) at 9001", OUTSIDE, Edges::hornsFull, x -> x.rounds(31));
    }

    static void promise10_rounds_withoutCoachesAndWithoutPassengers() {
        LeftCoaches x = Check.of("l2 0;p0 0 0 1 9;");
        edge.due("rounds(30) without coaches", x.rounds(30), 0);
        edge.due("INN", x.passenger(0, 1), 0);
        edge.due("rounds(30) without passengers", Check.of("l2 0;c0 1 0;").rounds(30), 30);
        edge.due("rounds(30) on inns alone", Check.of("l2 0;").rounds(30), 0);
    }

    static void promise10_rounds_eachCoachAsTheyCome() {
        LeftCoaches x = Check.of("l3 0;c0 1 0;c0 1 0;c0 1 0;c0 1 0;p0 0 9 2 3;p0 0 9 2 2;p0 0 9 2 1;p0 0 9 2 0;");
        edge.due("rounds(1)", x.rounds(1), 4);
        for (int i = 0; i < 4; i++) {
            edge.due("HORN", x.lefts(i, 0), 3 - i);
            edge.due("COACH", x.lefts(i, 1), 3 - i);
            edge.due("OWNER", x.lefts(i, 3), i);
        }
    }

    static void promise10_rounds_asManyHorns() {
        LeftCoaches x = Edges.busy();
        LeftCoaches y = Edges.busy();
        x.rounds(30);
        for (int i = 0; i < 90; i++) {
            y.horn(i % 3);
        }
        edge.due("can be undone behind rounds()", x.told(12), 6);
        x.undo();
        edge.due("HORNS", x.told(5), 2);
        x.rounds(30);
        x.keep(0);
        y.keep(0);
        edge.due("alike", Edges.all(x).equals(Edges.all(y)) ? 1 : 0, 1);
    }

    // ---- promise 11

    static void promise11_book_passengerThatThereIs() {
        edge.within("book(.., 0)", 0, 4, UNKNOWN, Edges9to18Test::nobodyInACoach, (x, p) -> x.book(p, 0));
        edge.refused("book(0, NONE) without a line", UNKNOWN, Edges::lineless, x -> x.book(0, NONE));
        edge.refused("book(0, NONE) without passengers", UNKNOWN, () -> Check.of("l2 0;c0 1 0;"), x -> x.book(0, NONE));
    }

    private static LeftCoaches nobodyInACoach() {
        LeftCoaches x = Edges.busy();
        x.out(0);
        return x;
    }

    static void promise11_book_coachThatThereIsOrNone() {
        edge.within("book(1, ..)", NONE, 2, UNKNOWN, Edges::busy, (x, c) -> x.book(1, c));
        edge.refused("book(1, 3)", UNKNOWN, Edges::busy, x -> x.book(1, 3));
        edge.refused("book(1, -2)", UNKNOWN, Edges::busy, x -> x.book(1, -2));
        edge.refused("book(1, 9)", UNKNOWN, Edges::busy, x -> x.book(1, 9));
        edge.refused("book(0, 0) without coaches", UNKNOWN, () -> Check.of("l2 0;p0 0 0 0 9;"), x -> x.book(0, 0));
        edge.due("book(0, NONE) without coaches", Check.of("l2 0;p0 0 0 0 9;").book(0, NONE), NONE);
    }

    static void promise11_book_notInACoach() {
        edge.refused("book(0, 0)", NOT, Edges::busy, x -> x.book(0, 0));
        edge.refused("book(0, 2)", NOT, Edges::busy, x -> x.book(0, 2));
        edge.refused("book(0, NONE)", NOT, Edges::busy, x -> x.book(0, NONE));
    }

    static void promise11_book_unknownGoesAheadOfNot() {
        edge.refused("book(0, 3)", UNKNOWN, Edges::busy, x -> x.book(0, 3));
        edge.refused("book(0, -2)", UNKNOWN, Edges::busy, x -> x.book(0, -2));
    }

    static void promise11_book_answersWhatItWas() {
        LeftCoaches x = Check.of("l2 0;c0 1 0;c0 1 0;c0 1 0;c0 1 0;p0 0 0 0 9;");
        int[] coaches = {0, 3, 3, NONE, NONE, 1};
        int was = NONE;
        for (int c : coaches) {
            edge.due("book(0, " + c + ")", x.book(0, c), was);
            edge.due("BOOKED", x.passenger(0, 5), c);
            was = c;
        }
        edge.due("can be undone", x.told(12), 6);
    }

    static void promise11_book_onACoachElsewhere() {
        LeftCoaches x = Check.of("l7 0;c6 1 0;p0 0 0 3 9;");
        edge.due("book(0, 0)", x.book(0, 0), NONE);
        edge.due("horn(0)", x.horn(0), 0);
        edge.due("BOOKED still", x.passenger(0, 5), 0);
        edge.due("INN", x.passenger(0, 1), 0);
    }

    // ---- promise 12

    static void promise12_walk_passengerThatThereIs() {
        Edges.Start within = () -> Check.of("l3 0;p0 1 0 0 9;p0 1 0 0 9;p0 1 0 0 9;");
        edge.within("walk(.., true)", 0, 2, UNKNOWN, within, (x, p) -> x.walk(p, true));
        edge.within("walk(.., false)", 0, 2, UNKNOWN, within, (x, p) -> x.walk(p, false));
        edge.refused("walk(5, true)", UNKNOWN, Edges::busy, x -> x.walk(5, true));
        edge.refused("walk(0, true) without a line", UNKNOWN, Edges::lineless, x -> x.walk(0, true));
    }

    static void promise12_walk_theUpperEnd() {
        for (int inns = 2; inns <= 7; inns++) {
            String text = "l" + inns + " 0;p0 " + (inns - 2) + " 0 0 9;";
            edge.due("walk up to the end of " + inns, Check.of(text).walk(0, true), inns - 1);
            edge.refused("walk up beyond it", NOT, () -> walked(text, true), x -> x.walk(0, true));
        }
        edge.refused("walk(4, true)", NOT, Edges::busy, x -> x.walk(4, true));
        edge.due("walk(4, false)", Edges.busy().walk(4, false), 3);
    }

    static void promise12_walk_theLowerEnd() {
        String text = "l7 0;p0 1 0 0 9;";
        edge.due("walk down to the end", Check.of(text).walk(0, false), 0);
        edge.refused("walk down beyond it", NOT, () -> walked(text, false), x -> x.walk(0, false));
        edge.refused("walk(1, false)", NOT, Edges::busy, x -> x.walk(1, false));
        edge.due("walk(1, true)", Edges.busy().walk(1, true), 1);
    }

    private static LeftCoaches walked(String text, boolean up) {
        LeftCoaches x = Check.of(text);
        x.walk(0, up);
        return x;
    }

    static void promise12_walk_notInACoach() {
        edge.refused("walk(0, true)", NOT, Edges::busy, x -> x.walk(0, true));
        edge.refused("walk(0, false)", NOT, Edges::busy, x -> x.walk(0, false));
    }

    static void promise12_walk_theWholeLineAndBack() {
        LeftCoaches x = Check.of("l7 0;c3 1 0;p0 0 5 3 0;");
        for (int inn = 1; inn <= 6; inn++) {
            edge.due("walk up", x.walk(0, true), inn);
            edge.due("INN", x.passenger(0, 1), inn);
        }
        for (int inn = 5; inn >= 0; inn--) {
            edge.due("walk down", x.walk(0, false), inn);
        }
        edge.due("BOOKED still", x.passenger(0, 5), 0);
        edge.due("can be undone", x.told(12), 12);
    }

    // ---- promise 13

    static void promise13_out_passengerThatThereIs() {
        edge.within("out", 0, 0, UNKNOWN, Edges9to18Test::oneInACoach, LeftCoaches::out);
        edge.refused("out(5)", UNKNOWN, Edges::busy, x -> x.out(5));
        edge.refused("out(0) without a line", UNKNOWN, Edges::lineless, x -> x.out(0));
    }

    private static LeftCoaches oneInACoach() {
        LeftCoaches x = Check.of("l3 0;c0 1 0;p0 0 0 2 0;");
        x.horn(0);
        return x;
    }

    static void promise13_out_notAtAnInn() {
        for (int p = 1; p <= 4; p++) {
            int passenger = p;
            edge.refused("out(" + p + ")", NOT, Edges::busy, x -> x.out(passenger));
        }
        edge.refused("out(0) again", NOT, Edges9to18Test::nobodyInACoach, x -> x.out(0));
    }

    static void promise13_out_ofTheFirstCoachAndTheLast() {
        for (int c = 0; c < 4; c++) {
            LeftCoaches x = Check.of("l3 0;c0 1 0;c0 1 0;c0 1 0;c0 1 0;p0 0 0 2 " + c + ";");
            x.horn(c);
            edge.due("out(0)", x.out(0), c);
            edge.due("INN where it is", x.passenger(0, 1), 1);
            edge.due("COACH", x.passenger(0, 2), NONE);
            edge.due("BOOKED no more", x.passenger(0, 5), NONE);
            edge.due("in it", x.coach(c, 4), 0);
        }
    }

    static void promise13_out_atTheEndOfTheLine() {
        LeftCoaches x = Check.of("l3 0;c1 1 0;p0 1 0 0 0;");
        x.horn(0);
        edge.due("out(0)", x.out(0), 0);
        edge.due("INN", x.passenger(0, 1), 2);
        edge.due("walk up", x.walk(0, true), NOT);
        edge.due("walk down", x.walk(0, false), 1);
    }

    // ---- promise 14

    static void promise14_slow_passengerThatThereIs() {
        edge.within("slow(.., 30)", 0, 4, UNKNOWN, Edges::busy, (x, p) -> x.slow(p, 30));
        edge.refused("slow(0, 0) without a line", UNKNOWN, Edges::lineless, x -> x.slow(0, 0));
    }

    static void promise14_slow_withinItsBounds() {
        edge.within("slow(1, ..)", 0, 30, OUTSIDE, Edges::busy, (x, s) -> x.slow(1, s));
        edge.within("slow(0, ..) in a coach", 0, 30, OUTSIDE, Edges::busy, (x, s) -> x.slow(0, s));
    }

    static void promise14_slow_unknownGoesAheadOfOutside() {
        edge.refused("slow(5, 31)", UNKNOWN, Edges::busy, x -> x.slow(5, 31));
        edge.refused("slow(-1, -1)", UNKNOWN, Edges::busy, x -> x.slow(-1, -1));
        edge.refused("slow(0, 31) without a line", UNKNOWN, Edges::lineless, x -> x.slow(0, 31));
    }

    static void promise14_slow_answersWhatItWas() {
        LeftCoaches x = Edges.busy();
        edge.due("slow(3, 0)", x.slow(3, 0), 30);
        edge.due("slow(3, 0)", x.slow(3, 0), 0);
        edge.due("slow(3, 30)", x.slow(3, 30), 0);
        edge.due("SLOW", x.passenger(3, 3), 30);
        edge.due("can be undone", x.told(12), 8);
        edge.due("slow(0, 7) in a coach", x.slow(0, 7), 9);
        edge.due("SLOW", x.passenger(0, 3), 7);
    }

    // ---- promise 15

    static void promise15_waits_coachThatThereIs() {
        edge.within("waits(.., 50)", 0, 2, UNKNOWN, Edges::busy, (x, c) -> x.waits(c, 50));
        edge.refused("waits(0, 0) without a line", UNKNOWN, Edges::lineless, x -> x.waits(0, 0));
    }

    static void promise15_waits_withinItsBounds() {
        edge.within("waits(0, ..)", 0, 50, OUTSIDE, Edges::busy, (x, w) -> x.waits(0, w));
        edge.within("waits(2, ..)", 0, 50, OUTSIDE, Edges::busy, (x, w) -> x.waits(2, w));
    }

    static void promise15_waits_unknownGoesAheadOfOutside() {
        edge.refused("waits(3, 51)", UNKNOWN, Edges::busy, x -> x.waits(3, 51));
        edge.refused("waits(-1, -1)", UNKNOWN, Edges::busy, x -> x.waits(-1, -1));
        edge.refused("waits(0, 51) without a line", UNKNOWN, Edges::lineless, x -> x.waits(0, 51));
    }

    static void promise15_waits_longerThanCanBeTold() {
        LeftCoaches x = Check.of("l2 0;c0 1 30;");
        edge.due("waits(0, 31)", x.waits(0, 31), 30);
        edge.due("waits(0, 50)", x.waits(0, 50), 31);
        edge.due("waits(0, 0)", x.waits(0, 0), 50);
        edge.due("waits(0, 0)", x.waits(0, 0), 0);
        edge.due("can be undone", x.told(12), 4);
    }

    // ---- promise 16

    static void promise16_light_innsThatThereAre() {
        for (int inns = 2; inns <= 7; inns++) {
            String text = "l" + inns + " 1;";
            int all = (1 << inns) - 1;
            edge.within("light at " + inns, 0, all, UNKNOWN, () -> Check.of(text), LeftCoaches::light);
            edge.due("light(0)", Check.of(text).light(0), 1);
        }
        edge.within("light", 0, 31, UNKNOWN, Edges::busy, LeftCoaches::light);
    }

    static void promise16_light_oneBitTooManyAmongThoseThatAre() {
        for (int bit = 5; bit <= 31; bit++) {
            int set = 1 << bit | 3;
            edge.due("light(" + set + ")", Edges.busy().light(set), UNKNOWN);
        }
        edge.refused("light(35)", UNKNOWN, Edges::busy, x -> x.light(35));
    }

    static void promise16_light_withoutALine() {
        edge.refused("light(0) without a line", NOT, Edges::lineless, x -> x.light(0));
    }

    static void promise16_light_unknownGoesAheadOfNot() {
        edge.refused("light(1) without a line", UNKNOWN, Edges::lineless, x -> x.light(1));
        edge.refused("light(-1) without a line", UNKNOWN, Edges::lineless, x -> x.light(-1));
    }

    static void promise16_light_answersWhatTheyWere() {
        LeftCoaches x = Check.of("l7 127;");
        edge.due("light(0)", x.light(0), 127);
        edge.due("light(64)", x.light(64), 0);
        edge.due("light(64)", x.light(64), 64);
        edge.due("LANTERNS", x.told(1), 64);
        edge.due("can be undone", x.told(12), 3);
    }

    // ---- promise 17

    static void promise17_drift_withinItsBounds() {
        edge.within("drift", 1, 30, OUTSIDE, Edges::busy, LeftCoaches::drift);
        edge.due("drift(1)", Edges.busy().drift(1), 2 + 3);
        edge.due("drift(30)", Edges.busy().drift(30), 2 + 90);
    }

    static void promise17_drift_withoutALine() {
        edge.refused("drift(1) without a line", NOT, Edges::lineless, x -> x.drift(1));
        edge.refused("drift(30) without a line", NOT, Edges::lineless, x -> x.drift(30));
    }

    static void promise17_drift_outsideGoesAheadOfNot() {
        edge.refused("drift(0) without a line", OUTSIDE, Edges::lineless, x -> x.drift(0));
        edge.refused("drift(31) without a line", OUTSIDE, Edges::lineless, x -> x.drift(31));
    }

    static void promise17_drift_theLastHornAndTheFirstTooMany() {
        edge.due("drift(1) at 9000", Edges.hornsAtLast().drift(1), 9004);
        edge.due("drift(30) at 9000", Edges.hornsAtLast().drift(30), 9120);
        edge.refused("drift(1) at 9001", FULL, Edges::hornsFull, x -> x.drift(1));
        edge.refused("drift(30) at 9001", FULL, Edges::hornsFull, x -> x.drift(30));
    }

    static void promise17_drift_outsideGoesAheadOfFull() {
        edge.refused("drift(0) at 9001", OUTSIDE, Edges::hornsFull, x -> x.drift(0));
        edge.refused("drift(31) at 9001", OUTSIDE, Edges::hornsFull, x -> x.drift(31));
    }

    static void promise17_drift_withoutPassengersNoDraw() {
        LeftCoaches x = Check.of("l3 0;c0 1 3;c0 1 3;");
        x.seed(99);
        edge.due("drift(30)", x.drift(30), 60);
        edge.due("THE SEED", x.seed(0), 99);
    }

    static void promise17_drift_withoutCoachesNoDraw() {
        LeftCoaches x = Check.of("l3 0;p0 0 3 0 9;");
        x.seed(99);
        edge.due("drift(30)", x.drift(30), 0);
        edge.due("THE SEED", x.seed(0), 99);
        edge.due("SLOW", x.passenger(0, 3), 3);
    }

    private static final BigInteger TIMES = BigInteger.valueOf(1103515245), MORE = BigInteger.valueOf(12345);
    private static final BigInteger BOUND = BigInteger.TWO.pow(31);

    private static BigInteger next(BigInteger seed) {
        return seed.multiply(TIMES).add(MORE).mod(BOUND);
    }

    private static int of(BigInteger seed, int n) {
        return seed.divide(BigInteger.valueOf(65536)).mod(BigInteger.valueOf(n)).intValue();
    }

    /** With one passenger and one coach three draws a round are made, and a fourth for how slow. */
    private static BigInteger behindRounds(BigInteger seed, int rounds) {
        BigInteger luck = seed;
        for (int i = 0; i < rounds; i++) {
            luck = next(luck);
            int deed = of(luck, 4);
            luck = next(next(luck));
            luck = deed == 2 ? next(luck) : luck;
        }
        return luck;
    }

    static void promise17_drift_theSeedBehindOneRound() {
        int[] seeds = {0, 1, 2, 65535, 65536, 2147483646, 2147483647};
        for (int seed : seeds) {
            LeftCoaches x = Check.of("l2 0;c0 1 3;p0 0 3 1 9;");
            x.seed(seed);
            x.drift(1);
            edge.due("THE SEED behind " + seed, x.seed(0), behindRounds(BigInteger.valueOf(seed), 1).longValue());
        }
    }

    static void promise17_drift_theSeedBehindManyDraws() {
        int[] seeds = {0, 1, 123456789, 2147483647};
        for (int seed : seeds) {
            LeftCoaches x = Check.of("l2 0;c0 1 3;p0 0 3 1 9;");
            x.seed(seed);
            for (int i = 0; i < 250; i++) {
                x.drift(30);
            }
            edge.due("HORNS", x.told(5), 7500);
            edge.due("THE SEED behind " + seed, x.seed(0), behindRounds(BigInteger.valueOf(seed), 7500).longValue());
        }
    }

    /** Seeds whose first draw of 4 is the deed wanted: what is drawn then is read off by hand. */
    private static int seedFor(int deed, int passenger, int coach, int passengers, int coaches) {
        for (int seed = 0; seed < 1000000; seed++) {
            BigInteger first = next(BigInteger.valueOf(seed));
            BigInteger second = next(first);
            BigInteger third = next(second);
            if (of(first, 4) == deed && of(second, passengers) == passenger && of(third, coaches) == coach) {
                return seed;
            }
        }
        throw new IllegalStateException("no seed");
    }

    static void promise17_drift_zeroAndOneBook() {
        for (int deed = 0; deed <= 1; deed++) {
            LeftCoaches x = Check.of("l3 0;c1 1 3;c1 1 3;c1 1 3;c1 1 3;p0 0 3 1 9;p0 0 3 1 9;p0 0 3 1 9;");
            x.seed(seedFor(deed, 2, 3, 3, 4));
            x.drift(1);
            edge.due("BOOKED of the last", x.passenger(2, 5), 3);
            edge.due("BOOKED of the first", x.passenger(0, 5), NONE);
            x.seed(seedFor(deed, 0, 0, 3, 4));
            x.drift(1);
            edge.due("BOOKED of the first", x.passenger(0, 5), 0);
            edge.due("BOOKED of the last", x.passenger(2, 5), 3);
        }
    }

    static void promise17_drift_zeroAndOneDoNothingInACoach() {
        for (int deed = 0; deed <= 1; deed++) {
            LeftCoaches x = Check.of("l7 0;c0 1 3;c6 1 3;p0 0 3 6 0;");
            x.horn(0);
            x.seed(seedFor(deed, 0, 1, 1, 2));
            x.drift(1);
            edge.due("BOOKED", x.passenger(0, 5), 0);
            edge.due("COACH", x.passenger(0, 2), 0);
            edge.due("WHERE", x.coach(0, 0), 2);
        }
    }

    static void promise17_drift_twoDrawsHowSlow() {
        for (int coach = 0; coach <= 1; coach++) {
            LeftCoaches x = Check.of("l7 0;c3 1 3;c6 1 3;p0 0 3 6 9;p0 0 3 6 9;");
            int seed = seedFor(2, 1, coach, 2, 2);
            x.seed(seed);
            x.drift(1);
            BigInteger fourth = next(next(next(next(BigInteger.valueOf(seed)))));
            edge.due("SLOW", x.passenger(1, 3), of(fourth, 31));
            edge.due("SLOW of the other", x.passenger(0, 3), 3);
            edge.due("THE SEED", x.seed(0), fourth.longValue());
        }
    }

    static void promise17_drift_twoIsWithinZeroToThirty() {
        int least = 99;
        int most = -1;
        for (int seed = 0; seed < 3000; seed++) {
            BigInteger first = next(BigInteger.valueOf(seed));
            if (of(first, 4) == 2) {
                LeftCoaches x = Check.of("l2 0;c0 1 3;p0 0 3 1 9;");
                x.seed(seed);
                x.drift(1);
                least = Math.min(least, x.passenger(0, 3));
                most = Math.max(most, x.passenger(0, 3));
            }
        }
        edge.due("the least SLOW drawn", least, 0);
        edge.due("the greatest SLOW drawn", most, 30);
    }

    static void promise17_drift_twoInACoachToo() {
        LeftCoaches x = Check.of("l7 0;c0 1 3;p0 0 3 6 0;");
        x.horn(0);
        int seed = seedFor(2, 0, 0, 1, 1);
        x.seed(seed);
        x.drift(1);
        edge.due("SLOW", x.passenger(0, 3), of(next(next(next(next(BigInteger.valueOf(seed))))), 31));
    }

    static void promise17_drift_threeGetsOut() {
        LeftCoaches x = Check.of("l7 0;c0 1 3;p0 0 3 6 0;");
        x.horn(0);
        x.seed(seedFor(3, 0, 0, 1, 1));
        x.drift(1);
        edge.due("INN ahead of the horn", x.passenger(0, 1), 1);
        edge.due("BOOKED", x.passenger(0, 5), NONE);
        edge.due("INN of the coach", x.coach(0, 0), 2);
    }

    static void promise17_drift_threeDoesNothingAtAnInn() {
        LeftCoaches x = Check.of("l7 0;c3 1 3;p0 0 3 6 0;");
        x.seed(seedFor(3, 0, 0, 1, 1));
        x.drift(1);
        edge.due("INN", x.passenger(0, 1), 0);
        edge.due("BOOKED still", x.passenger(0, 5), 0);
    }

    // ---- promise 18

    static void promise18_undo_ofNothing() {
        edge.refused("undo() of a new one", NOT, LeftCoaches::new, LeftCoaches::undo);
        edge.refused("undo() without a line", NOT, Edges::lineless, LeftCoaches::undo);
        edge.refused("undo() of no more", NOT, Edges9to18Test::allUndone, LeftCoaches::undo);
    }

    private static LeftCoaches allUndone() {
        LeftCoaches x = Edges.busy();
        for (int i = 0; i < 5; i++) {
            x.undo();
        }
        return x;
    }

    static void promise18_undo_answersHowManyMore() {
        LeftCoaches x = Edges.busy();
        for (int more = 4; more >= 0; more--) {
            edge.due("undo()", x.undo(), more);
            edge.due("told(12)", x.told(12), more);
        }
        edge.due("undo()", x.undo(), NOT);
    }

    private static LeftCoaches slower(int times) {
        LeftCoaches x = Check.of("l2 0;p0 0 0 1 9;");
        for (int s = 1; s <= times; s++) {
            x.slow(0, s % 31);
        }
        return x;
    }

    static void promise18_undo_theSixteenthAndTheSeventeenth() {
        int[] deeds = {15, 16, 17, 18};
        for (int n : deeds) {
            LeftCoaches x = slower(n);
            int kept = Math.min(n, 16);
            edge.due("told(12) behind " + n, x.told(12), kept);
            for (int i = 1; i <= kept; i++) {
                edge.due("undo()", x.undo(), kept - i);
                edge.due("SLOW", x.passenger(0, 3), n - i);
            }
            edge.due("undo() of no more behind " + n, x.undo(), NOT);
            edge.due("SLOW", x.passenger(0, 3), n - kept);
        }
    }

    static void promise18_undo_manyTimesAround() {
        LeftCoaches x = slower(100);
        for (int i = 1; i <= 16; i++) {
            edge.due("undo()", x.undo(), 16 - i);
            edge.due("SLOW", x.passenger(0, 3), (100 - i) % 31);
        }
        edge.due("undo() of no more", x.undo(), NOT);
    }

    static void promise18_undo_andDoneAnewAcrossTheEnd() {
        LeftCoaches x = slower(20);
        for (int i = 0; i < 10; i++) {
            x.undo();
        }
        edge.due("SLOW", x.passenger(0, 3), 10);
        for (int s = 21; s <= 25; s++) {
            x.slow(0, s);
        }
        edge.due("told(12)", x.told(12), 11);
        int[] slow = {24, 23, 22, 21, 10, 9, 8, 7, 6, 5, 4};
        for (int s : slow) {
            x.undo();
            edge.due("SLOW", x.passenger(0, 3), s);
        }
        edge.due("undo() of no more", x.undo(), NOT);
    }

    private static void isUndone(String what, Edges.Call deed) {
        LeftCoaches x = Edges.busy();
        String ahead = Edges.all(x);
        edge.due(what + " is not refused", deed.on(x) >= NONE ? 1 : 0, 1);
        edge.due(what + " can be undone", x.told(12), 6);
        edge.due("undo() of " + what, x.undo(), 5);
        edge.due(what + " is undone", Edges.all(x).equals(ahead) ? 1 : 0, 1);
    }

    static void promise18_undo_ofEachDeed() {
        isUndone("horn(0)", x -> x.horn(0));
        isUndone("horn(1)", x -> x.horn(1));
        isUndone("rounds(1)", x -> x.rounds(1));
        isUndone("rounds(30)", x -> x.rounds(30));
        isUndone("book(1, 2)", x -> x.book(1, 2));
        isUndone("book(1, NONE)", x -> x.book(1, NONE));
        isUndone("walk(1, true)", x -> x.walk(1, true));
        isUndone("walk(4, false)", x -> x.walk(4, false));
        isUndone("out(0)", x -> x.out(0));
        isUndone("slow(0, 30)", x -> x.slow(0, 30));
        isUndone("waits(2, 50)", x -> x.waits(2, 50));
        isUndone("light(31)", x -> x.light(31));
        isUndone("drift(1)", x -> x.drift(1));
        isUndone("drift(30)", x -> x.drift(30));
    }

    static void promise18_undo_ofADeedThatChangesNothing() {
        isUndone("book(4, NONE)", x -> x.book(4, NONE));
        isUndone("slow(3, 30)", x -> x.slow(3, 30));
        isUndone("waits(2, 20)", x -> x.waits(2, 20));
        isUndone("light(18)", x -> x.light(18));
    }

    static void promise18_undo_theSeedStays() {
        LeftCoaches x = Edges.busy();
        x.drift(5);
        int seed = x.seed(0);
        x.seed(seed);
        edge.due("THE SEED was drawn", seed != 314159 ? 1 : 0, 1);
        x.undo();
        edge.due("THE SEED", x.seed(7), seed);
        x.undo();
        edge.due("THE SEED", x.seed(0), 7);
    }

    static void promise18_undo_whatIsNoDeedStays() {
        LeftCoaches x = Edges.busy();
        x.slow(0, 1);
        x.see(0, 0, 9, true);
        x.write(0, NONE);
        x.seed(5);
        x.feed('l');
        edge.due("undo()", x.undo(), 5);
        edge.due("SEEN", x.told(10), 4);
        edge.due("entries", x.told(11), 4);
        edge.due("letters", x.told(4), 24);
        edge.due("fault()", x.fault(), 3);
    }

    static void promise18_undo_bringsTheTwentyFirstRowBack() {
        LeftCoaches x = Check.of("l2 0;c0 1 0;p0 0 9 0 9;p0 1 9 1 9;");
        for (int horn = 0; horn < 21; horn++) {
            x.book(horn % 2, 0);
            x.horn(0);
        }
        edge.due("the oldest", x.lefts(19, 0), 1);
        x.undo();
        edge.due("the oldest", x.lefts(19, 0), 0);
        edge.due("who was it ahead", x.lefts(19, 4), NONE);
        edge.due("the latest", x.lefts(0, 0), 19);
        x.undo();
        x.undo();
        edge.due("lefts", x.told(9), 19);
        edge.due("the oldest", x.lefts(18, 0), 0);
        edge.due("lefts(19, 0)", x.lefts(19, 0), NONE);
    }

    static void promise18_undo_fromFullHorns() {
        LeftCoaches x = Edges.hornsFull();
        edge.due("horn(0)", x.horn(0), FULL);
        edge.due("undo()", x.undo(), 15);
        edge.due("HORNS", x.told(5), 9000);
        edge.due("horn(0)", x.horn(0), 0);
        edge.due("told(12)", x.told(12), 16);
    }

    static void promise18_undo_refusedIsNotKept() {
        LeftCoaches x = Edges.busy();
        int[] answers = {x.horn(3), x.rounds(0), x.rounds(31), x.book(0, 1), x.book(9, 1), x.book(1, 9), x.walk(0, true),
            x.walk(1, false), x.walk(4, true), x.out(1), x.slow(0, 31), x.slow(9, 0), x.waits(0, 51), x.waits(9, 0),
            x.light(32), x.drift(0), x.drift(31)};
        for (int answer : answers) {
            edge.due("it is refused", answer < -1000000000 ? 1 : 0, 1);
        }
        edge.due("told(12)", x.told(12), 5);
        edge.due("undo()", x.undo(), 4);
        edge.due("LANTERNS", x.told(1), 9);
    }

    static void promise18_undo_nothingBehindKeepAndGoBack() {
        LeftCoaches x = Edges.busy();
        x.keep(0);
        edge.due("undo() behind keep()", x.undo(), NOT);
        x.slow(0, 1);
        edge.due("told(12)", x.told(12), 1);
        x.goBack(1);
        edge.due("undo() behind goBack()", x.undo(), NOT);
    }
}
