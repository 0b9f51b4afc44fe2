/** The edges that promises 26 to 34 name, with those of what section 3 says of seeing and keeping: one test for each. */
public final class Edges26to34Test {
    private static final int OUTSIDE = LeftCoaches.OUTSIDE, UNKNOWN = LeftCoaches.UNKNOWN, NONE = LeftCoaches.NONE;
    private static final int NOT = LeftCoaches.NOT, FULL = LeftCoaches.FULL;
    private static final Edges edge = new Edges("Edges26to34Test");

    public static void main(String[] args) throws IllegalAccessException {
        edge.run(Edges26to34Test.class, 26, 34);
    }

    private static LeftCoaches seen(int k, int r, int w, boolean left) {
        LeftCoaches x = new LeftCoaches();
        x.see(k, r, w, left);
        return x;
    }

    private static void trulyIs(LeftCoaches x, int many, int least, int greatest) {
        edge.due("truly(0)", x.truly(0), many);
        edge.due("truly(1)", x.truly(1), least);
        edge.due("truly(2)", x.truly(2), greatest);
    }

    // ---- promise 26

    static void promise26_see_kindWithinItsBounds() {
        edge.within("see(.., 0, 0, true)", 0, 3, OUTSIDE, Edges::busy, (x, k) -> x.see(k, 0, 0, true));
        edge.within("see(.., 2, 40, false)", 0, 3, OUTSIDE, Edges::lineless, (x, k) -> x.see(k, 2, 40, false));
    }

    static void promise26_see_hornWithinItsBounds() {
        edge.within("see(0, .., 0, true)", 0, 2, OUTSIDE, Edges::busy, (x, r) -> x.see(0, r, 0, true));
        edge.within("see(3, .., 40, false)", 0, 2, OUTSIDE, Edges::lineless, (x, r) -> x.see(3, r, 40, false));
    }

    static void promise26_see_waitWithinItsBounds() {
        edge.within("see(0, 0, .., true)", 0, 40, OUTSIDE, Edges::busy, (x, w) -> x.see(0, 0, w, true));
        edge.within("see(3, 2, .., false)", 0, 40, OUTSIDE, Edges::lineless, (x, w) -> x.see(3, 2, w, false));
    }

    static void promise26_see_theSixthAndTheSeventh() {
        LeftCoaches x = new LeftCoaches();
        for (int i = 1; i <= 6; i++) {
            edge.due("see of " + i, x.see(0, 0, 20 - i, false), i);
            edge.due("told(10)", x.told(10), i);
        }
        edge.due("the sixth counts", x.truly(2), 14);
        edge.refused("a seventh", FULL, Edges::seenFull, y -> y.see(0, 0, 1, false));
        edge.refused("a seventh", FULL, Edges::seenFull, y -> y.see(3, 2, 40, true));
    }

    static void promise26_see_outsideGoesAheadOfFull() {
        edge.refused("a seventh of kind 4", OUTSIDE, Edges::seenFull, x -> x.see(4, 0, 0, true));
        edge.refused("a seventh at horn 3", OUTSIDE, Edges::seenFull, x -> x.see(0, 3, 0, true));
        edge.refused("a seventh by wait 41", OUTSIDE, Edges::seenFull, x -> x.see(0, 0, 41, true));
        edge.refused("a seventh by wait -1", OUTSIDE, Edges::seenFull, x -> x.see(0, 0, -1, true));
    }

    static void promise26_see_withoutALine() {
        edge.due("see", new LeftCoaches().see(0, 0, 0, true), 1);
    }

    static void promise26_see_againBehindTear() {
        LeftCoaches x = Edges.seenFull();
        x.tear();
        edge.due("see", x.see(0, 0, 29, true), 1);
        trulyIs(x, 1, 30, 30);
    }

    // ---- promise 27

    static void promise27_truly_whatWithinItsBounds() {
        edge.within("truly", 0, 2, OUTSIDE, Edges::busy, LeftCoaches::truly);
        edge.within("truly without a line", 0, 2, OUTSIDE, Edges::lineless, LeftCoaches::truly);
    }

    static void promise27_truly_changesNothing() {
        for (int what = 0; what <= 2; what++) {
            int asked = what;
            edge.changesNothing("truly(" + what + ")", Edges::busy, x -> x.truly(asked));
        }
    }

    static void promise27_truly_nothingSeenAllFits() {
        trulyIs(new LeftCoaches(), 31, 0, 30);
    }

    static void promise27_truly_waitAsLongAsTheLagIsNotLeft() {
        trulyIs(seen(0, 0, 0, false), 1, 0, 0);
        trulyIs(seen(0, 0, 0, true), 30, 1, 30);
        trulyIs(seen(0, 0, 29, true), 1, 30, 30);
        trulyIs(seen(0, 0, 29, false), 30, 0, 29);
        trulyIs(seen(0, 0, 30, false), 31, 0, 30);
        trulyIs(seen(0, 0, 30, true), 0, NONE, NONE);
        trulyIs(seen(0, 0, 40, false), 31, 0, 30);
        trulyIs(seen(0, 0, 40, true), 0, NONE, NONE);
    }

    static void promise27_truly_ofAHiderWhoOwnsNone() {
        trulyIs(seen(1, 0, 8, false), 0, NONE, NONE);
        trulyIs(seen(1, 0, 8, true), 31, 0, 30);
        trulyIs(seen(1, 0, 9, false), 1, 0, 0);
        trulyIs(seen(1, 0, 9, true), 30, 1, 30);
        trulyIs(seen(1, 0, 38, true), 1, 30, 30);
        trulyIs(seen(1, 0, 39, true), 0, NONE, NONE);
        trulyIs(seen(1, 0, 39, false), 31, 0, 30);
    }

    static void promise27_truly_ofAnOldLadyByTheHorn() {
        trulyIs(seen(2, 0, 0, false), 1, 0, 0);
        trulyIs(seen(2, 1, 0, false), 0, NONE, NONE);
        trulyIs(seen(2, 1, 1, false), 1, 0, 0);
        trulyIs(seen(2, 2, 1, false), 0, NONE, NONE);
        trulyIs(seen(2, 2, 2, false), 1, 0, 0);
        trulyIs(seen(2, 2, 31, true), 1, 30, 30);
        trulyIs(seen(2, 2, 32, true), 0, NONE, NONE);
        trulyIs(seen(2, 1, 31, true), 0, NONE, NONE);
    }

    static void promise27_truly_theHornMattersToAnOldLadyAlone() {
        for (int r = 0; r <= 2; r++) {
            trulyIs(seen(0, r, 10, false), 11, 0, 10);
            trulyIs(seen(1, r, 10, false), 2, 0, 1);
            trulyIs(seen(3, r, 10, false), 22, 0, 21);
        }
    }

    static void promise27_truly_ofATiedOneIsCut() {
        trulyIs(seen(3, 0, 0, false), 2, 0, 1);
        trulyIs(seen(3, 0, 0, true), 29, 2, 30);
        trulyIs(seen(3, 0, 14, true), 1, 30, 30);
        trulyIs(seen(3, 0, 14, false), 30, 0, 29);
        trulyIs(seen(3, 0, 15, true), 0, NONE, NONE);
    }

    static void promise27_truly_allThatIsSeen() {
        LeftCoaches x = new LeftCoaches();
        x.see(0, 0, 5, true);
        x.see(0, 0, 25, false);
        x.see(1, 0, 16, true);
        x.see(1, 0, 30, false);
        x.see(3, 0, 8, true);
        x.see(2, 2, 20, false);
        trulyIs(x, 1, 18, 18);
    }

    static void promise27_truly_withoutLanterns() {
        LeftCoaches x = Check.of("l2 3;c0 1 5;p0 0 9 1 0;");
        x.see(0, 0, 5, false);
        trulyIs(x, 6, 0, 5);
    }

    // ---- promise 28

    static void promise28_tryNext_changesNothing() {
        edge.changesNothing("tryNext()", Edges::busy, LeftCoaches::tryNext);
        edge.changesNothing("tryNext() without a line", Edges::lineless, LeftCoaches::tryNext);
    }

    static void promise28_tryNext_nothingSeen() {
        edge.due("of 31, 15 and 16 are as good as 16 and 15: the least", new LeftCoaches().tryNext(), 14);
    }

    static void promise28_tryNext_noneFits() {
        edge.due("tryNext()", seen(0, 0, 40, true).tryNext(), NONE);
    }

    static void promise28_tryNext_oneAloneFits() {
        edge.due("0 alone", seen(0, 0, 0, false).tryNext(), NONE);
        edge.due("30 alone", seen(0, 0, 29, true).tryNext(), NONE);
    }

    static void promise28_tryNext_twoFit() {
        edge.due("0 and 1", seen(0, 0, 1, false).tryNext(), 0);
        edge.due("29 and 30", seen(0, 0, 28, true).tryNext(), 29);
    }

    static void promise28_tryNext_threeFit() {
        edge.due("0 to 2", seen(0, 0, 2, false).tryNext(), 0);
        edge.due("28 to 30", seen(0, 0, 27, true).tryNext(), 28);
    }

    static void promise28_tryNext_byHalvesToTheEnd() {
        for (int slow = 0; slow <= 30; slow++) {
            LeftCoaches x = new LeftCoaches();
            int tries = 0;
            int wait = x.tryNext();
            while (wait != NONE && tries < 6) {
                x.see(0, 0, wait, slow > wait);
                tries++;
                wait = x.tryNext();
            }
            edge.due("five tries at the most, not " + tries, tries <= 5 ? 1 : 0, 1);
            trulyIs(x, 1, slow, slow);
        }
    }

    // ---- promise 29

    static void promise29_write_coachThatThereIs() {
        edge.within("write(.., 0)", 0, 2, UNKNOWN, Edges::busy, (x, c) -> x.write(c, 0));
        edge.within("write(.., NONE)", 0, 2, UNKNOWN, Edges::busy, (x, c) -> x.write(c, NONE));
        edge.refused("write(0, NONE) without a line", UNKNOWN, Edges::lineless, x -> x.write(0, NONE));
        edge.refused("write(0, 0) without coaches", UNKNOWN, () -> Check.of("l2 0;p0 0 0 0 9;"), x -> x.write(0, 0));
    }

    static void promise29_write_passengerThatThereIsOrNone() {
        edge.within("write(0, ..)", NONE, 4, UNKNOWN, Edges::busy, (x, p) -> x.write(0, p));
        edge.refused("write(0, 0) without passengers", UNKNOWN, () -> Check.of("l2 0;c0 1 0;"), x -> x.write(0, 0));
        edge.due("write(0, NONE) without passengers", Check.of("l2 0;c0 1 0;").write(0, NONE), 1);
    }

    static void promise29_write_theFifteenthAndTheSixteenth() {
        LeftCoaches x = Check.of("l2 0;c0 1 0;c0 1 0;c0 1 0;c0 1 0;p0 0 0 0 9;");
        for (int i = 1; i <= 15; i++) {
            edge.due("write of " + i, x.write(i % 4, NONE), i);
            edge.due("told(11)", x.told(11), i);
        }
        edge.refused("a sixteenth", FULL, Edges::rollFull, y -> y.write(0, 0));
        edge.refused("a sixteenth", FULL, Edges::rollFull, y -> y.write(2, NONE));
    }

    static void promise29_write_unknownGoesAheadOfFull() {
        edge.refused("a sixteenth of coach 3", UNKNOWN, Edges::rollFull, x -> x.write(3, 0));
        edge.refused("a sixteenth of coach -1", UNKNOWN, Edges::rollFull, x -> x.write(-1, 0));
        edge.refused("a sixteenth of passenger 5", UNKNOWN, Edges::rollFull, x -> x.write(0, 5));
        edge.refused("a sixteenth of passenger -2", UNKNOWN, Edges::rollFull, x -> x.write(0, -2));
    }

    static void promise29_write_againBehindTear() {
        LeftCoaches x = Edges.rollFull();
        x.tear();
        edge.due("write(0, NONE)", x.write(0, NONE), 1);
        edge.due("judge()", x.judge(), 0);
    }

    // ---- promise 30

    static void promise30_tear_ofNothing() {
        edge.due("tear() of a new one", new LeftCoaches().tear(), 0);
        edge.changesNothing("tear() of nothing", () -> Check.of("l2 0;c0 1 0;p0 0 0 0 9;"), LeftCoaches::tear);
    }

    static void promise30_tear_ofOneOfBoth() {
        LeftCoaches x = seen(0, 0, 30, true);
        edge.due("tear()", x.tear(), 1);
        trulyIs(x, 31, 0, 30);
        x = Check.of("l2 0;c0 1 0;p0 0 0 0 9;");
        x.write(0, 0);
        edge.due("tear()", x.tear(), 1);
        edge.due("judge()", x.judge(), NONE);
    }

    static void promise30_tear_ofTheMostThereCanBe() {
        LeftCoaches x = Edges.rollFull();
        x.see(0, 0, 9, true);
        x.see(0, 0, 9, true);
        x.see(0, 0, 9, true);
        edge.due("tear()", x.tear(), 21);
        edge.due("told(10)", x.told(10), 0);
        edge.due("told(11)", x.told(11), 0);
        edge.due("tear() again", x.tear(), 0);
    }

    static void promise30_tear_leavesAllElse() {
        LeftCoaches x = Edges.busy();
        LeftCoaches y = Edges.busy();
        x.tear();
        edge.due("can be undone", x.told(12), 5);
        for (int p = 0; p < 5; p++) {
            for (int what = 0; what <= 8; what++) {
                edge.due("passenger(" + p + ", " + what + ")", x.passenger(p, what), y.passenger(p, what));
            }
        }
        edge.due("lefts", x.told(9), 2);
        edge.due("letters", x.told(4), 23);
        edge.due("undo()", x.undo(), 4);
        edge.due("goBack(0)", x.goBack(0), 1);
        edge.due("THE SEED", x.seed(0), 271828);
    }

    // ---- promise 31

    static void promise31_judge_changesNothing() {
        edge.changesNothing("judge()", Edges::busy, LeftCoaches::judge);
        edge.changesNothing("judge() of a full roll", Edges::rollFull, LeftCoaches::judge);
    }

    static void promise31_judge_emptyRoll() {
        edge.due("judge() of a new one", new LeftCoaches().judge(), NONE);
        edge.due("judge()", Check.of("l2 0;c0 1 0;p0 0 0 0 9;").judge(), NONE);
    }

    static void promise31_judge_theFirstEntryAndTheLast() {
        for (int wrong = 0; wrong < 15; wrong++) {
            LeftCoaches x = Check.of("l2 0;c0 1 0;c0 1 0;p0 0 9 0 1;");
            x.horn(1);
            for (int i = 0; i < 15; i++) {
                x.write(i == wrong ? 0 : 1, 0);
            }
            edge.due("judge()", x.judge(), wrong);
        }
    }

    static void promise31_judge_allRight() {
        LeftCoaches x = Check.of("l2 0;c0 1 0;c0 1 0;p0 0 9 0 1;");
        x.horn(1);
        for (int i = 0; i < 15; i++) {
            x.write(i % 2, i % 2 == 0 ? NONE : 0);
        }
        edge.due("judge()", x.judge(), NONE);
    }

    static void promise31_judge_nobodyWhereSomebodyAndTheOtherWayRound() {
        LeftCoaches x = Check.of("l2 0;c0 1 0;p0 0 9 0 0;p0 1 9 0 9;");
        x.write(0, 0);
        edge.due("somebody where nobody", x.judge(), 0);
        x.horn(0);
        edge.due("right", x.judge(), NONE);
        x.book(1, 0);
        x.horn(0);
        edge.due("another", x.judge(), 0);
        x.tear();
        x.write(0, NONE);
        edge.due("nobody where somebody", x.judge(), 0);
    }

    static void promise31_judge_asItIsNow() {
        LeftCoaches x = Check.of("l2 0;c0 1 0;p0 0 9 0 0;");
        x.keep(0);
        x.write(0, 0);
        x.horn(0);
        edge.due("judge()", x.judge(), NONE);
        x.undo();
        edge.due("judge() when undone", x.judge(), 0);
        x.horn(0);
        edge.due("judge()", x.judge(), NONE);
        x.goBack(0);
        edge.due("judge() of the image", x.judge(), 0);
    }

    // ---- promise 32

    static void promise32_seed_withinItsBounds() {
        LeftCoaches x = new LeftCoaches();
        int[] seeds = {0, 2147483647, 1, 2147483646, 0};
        int was = 0;
        for (int seed : seeds) {
            edge.due("seed(" + seed + ")", x.seed(seed), was);
            was = seed;
        }
    }

    static void promise32_seed_outsideItsBounds() {
        for (int seed : new int[] {-1, -2, Integer.MIN_VALUE, LeftCoaches.UNKNOWN}) {
            edge.refused("seed(" + seed + ")", OUTSIDE, Edges::busy, x -> x.seed(seed));
            edge.refused("seed(" + seed + ") without a line", OUTSIDE, Edges::lineless, x -> x.seed(seed));
        }
    }

    static void promise32_seed_isNoDeed() {
        LeftCoaches x = Edges.busy();
        x.seed(1);
        edge.due("can be undone", x.told(12), 5);
        edge.due("undo()", x.undo(), 4);
        edge.due("THE SEED", x.seed(0), 1);
    }

    // ---- promise 33

    static void promise33_keep_imageThatThereIs() {
        edge.within("keep", 0, 1, UNKNOWN, Edges::busy, LeftCoaches::keep);
        edge.within("keep without a line", 0, 1, UNKNOWN, Edges::lineless, LeftCoaches::keep);
        edge.due("keep(0)", Edges.busy().keep(0), 1);
        edge.due("keep(1)", Edges.busy().keep(1), 1);
    }

    static void promise33_keep_nothingCanBeUndoneThen() {
        for (int i = 0; i <= 1; i++) {
            LeftCoaches x = Edges.busy();
            x.keep(i);
            edge.due("told(12)", x.told(12), 0);
            edge.due("undo()", x.undo(), NOT);
        }
    }

    static void promise33_keep_changesNothingElse() {
        LeftCoaches x = Edges.busy();
        String want = Edges.all(x).replace(" 3 3 5 c", " 3 3 0 c");
        x.keep(0);
        edge.due("all but what can be undone", Edges.all(x).equals(want) ? 1 : 0, 1);
        edge.due("THE SEED", x.seed(0), 314159);
    }

    static void promise33_keep_anewInPlaceOfWhatWas() {
        LeftCoaches x = Edges.busy();
        x.keep(0);
        String want = Edges.all(x);
        x.rounds(9);
        x.seed(1);
        edge.due("goBack(0)", x.goBack(0), 1);
        edge.due("all as kept the second time", Edges.all(x).equals(want) ? 1 : 0, 1);
        edge.due("THE SEED", x.seed(0), 314159);
    }

    static void promise33_keep_oneImageLeavesTheOther() {
        LeftCoaches x = Edges.busy();
        x.goBack(1);
        String want = Edges.all(x);
        x.rounds(9);
        x.keep(0);
        x.goBack(1);
        edge.due("image 1", Edges.all(x).equals(want) ? 1 : 0, 1);
        edge.due("THE SEED of image 1", x.seed(0), 271828);
    }

    // ---- promise 34

    static void promise34_goBack_imageThatThereIs() {
        edge.within("goBack", 0, 1, UNKNOWN, Edges::busy, LeftCoaches::goBack);
        edge.refused("goBack(2) where none was kept", UNKNOWN, LeftCoaches::new, x -> x.goBack(2));
        edge.refused("goBack(-1) where none was kept", UNKNOWN, LeftCoaches::new, x -> x.goBack(-1));
    }

    private static LeftCoaches oneKept(int i) {
        LeftCoaches x = Check.of("l3 1;c0 1 0;p0 0 9 0 0;p0 0 5 1 0;");
        x.keep(i);
        x.seed(8);
        x.horn(0);
        x.light(7);
        return x;
    }

    static void promise34_goBack_notKept() {
        edge.refused("goBack(0) of a new one", NOT, LeftCoaches::new, x -> x.goBack(0));
        edge.refused("goBack(1) of a new one", NOT, LeftCoaches::new, x -> x.goBack(1));
        edge.refused("goBack(1), 0 was kept", NOT, () -> oneKept(0), x -> x.goBack(1));
        edge.refused("goBack(0), 1 was kept", NOT, () -> oneKept(1), x -> x.goBack(0));
    }

    static void promise34_goBack_notBehindANewLine() {
        Edges.Start anew = () -> {
            LeftCoaches x = Edges.busy();
            x.line();
            x.slow(0, 1);
            return x;
        };
        edge.refused("goBack(0)", NOT, anew, x -> x.goBack(0));
        edge.refused("goBack(1)", NOT, anew, x -> x.goBack(1));
    }

    static void promise34_goBack_stillBehindAFault() {
        LeftCoaches x = Edges.busy();
        x.feed('x');
        edge.due("line()", x.line(), -11);
        edge.due("goBack(0)", x.goBack(0), 1);
        edge.due("HORNS", x.told(5), 0);
    }

    static void promise34_goBack_nothingCanBeUndoneThen() {
        for (int i = 0; i <= 1; i++) {
            LeftCoaches x = Edges.busy();
            edge.due("goBack(" + i + ")", x.goBack(i), 1);
            edge.due("told(12)", x.told(12), 0);
            edge.due("undo()", x.undo(), NOT);
        }
    }

    static void promise34_goBack_againAndAgain() {
        LeftCoaches x = Edges.busy();
        x.goBack(0);
        String want = Edges.all(x);
        for (int i = 0; i < 3; i++) {
            x.rounds(5);
            x.drift(5);
            edge.due("goBack(0)", x.goBack(0), 1);
        }
        edge.due("all as kept", Edges.all(x).equals(want) ? 1 : 0, 1);
        edge.due("THE SEED as kept", x.seed(0), 271828);
    }

    static void promise34_goBack_toTheBookOfTwenty() {
        LeftCoaches x = Check.of("l2 0;c0 1 0;p0 0 9 0 9;p0 1 9 1 9;");
        for (int horn = 0; horn < 22; horn++) {
            x.book(horn % 2, 0);
            x.horn(0);
        }
        x.keep(1);
        for (int horn = 22; horn < 30; horn++) {
            x.book(horn % 2, 0);
            x.horn(0);
        }
        edge.due("the oldest", x.lefts(19, 0), 10);
        x.goBack(1);
        for (int i = 0; i < 20; i++) {
            edge.due("lefts(" + i + ", 0)", x.lefts(i, 0), 21 - i);
        }
        edge.due("told(9)", x.told(9), 20);
        edge.due("lefts(20, 0)", x.lefts(20, 0), NONE);
    }

    static void promise34_goBack_fromFullHorns() {
        LeftCoaches x = Edges.hornsFull();
        edge.due("horn(0)", x.horn(0), FULL);
        edge.due("goBack(0)", x.goBack(0), 1);
        edge.due("HORNS", x.told(5), 0);
        edge.due("horn(0)", x.horn(0), 1);
    }

    static void promise34_goBack_whatIsSeenAndWrittenStays() {
        LeftCoaches x = Edges.busy();
        x.see(0, 0, 9, true);
        x.goBack(0);
        edge.due("told(10)", x.told(10), 4);
        edge.due("told(11)", x.told(11), 3);
        edge.due("letters", x.told(4), 23);
        edge.due("fault()", x.fault(), 3);
        edge.due("judge()", x.judge(), 0);
    }

    static void promise34_goBack_withoutALine() {
        LeftCoaches x = Edges.lineless();
        edge.due("goBack(1)", x.goBack(1), 1);
        edge.due("THE SEED", x.seed(0), 161803);
        edge.due("INNS", x.told(0), 0);
        edge.due("rounds(1)", x.rounds(1), NOT);
    }
}
