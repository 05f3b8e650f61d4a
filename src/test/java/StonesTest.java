/** Promises 15 to 18: stone, law, crossed, books. */
public final class StonesTest {
    private static final int NO = MileRoad.NONE;
    private static final String STEADY_SIX = "steady 1;steady 2;steady 3;steady 4;steady 5;steady 6";

    public static void main(String[] args) throws IllegalAccessException {
        Due.runAll(StonesTest.class);
    }

    // ---- stone

    private static void stones(Due due, MileRoad x, int walker, int... places) {
        for (int k = 1; k <= places.length; k++) {
            due.is("stone(" + walker + ", " + k + ")", places[k - 1], x.stone(walker, k));
        }
    }

    @Says({"He goes over STEPS 1 .. n", "STONE k (1 .. 8) of a WALKER stands where he has gone by then",
        "STONE k of a WALKER; NONE"})
    static void p15OfASteadyOne(Due due) {
        stones(due, Roads.told(Roads.FOUR), 0, 1, 2, 4, 6, NO, NO, NO, NO);
    }

    @Says("by an OLD one as by a STEADY one, and (g less 1) by his HABIT, cut, more")
    static void p15OfAnOldOne(Due due) {
        MileRoad x = Roads.told(Roads.FOUR);
        stones(due, x, 1, 1, 2, 4, 5, 6, NO, NO, NO);
        // By threes: 0 0 0 1 1 1 2 more, all in all 3 6 9 13 17 21 26.
        MileRoad y = Roads.told("road 7;mile 13;old 3");
        stones(due, y, 0, 4, 7, NO);
        y.mile(21);
        stones(due, y, 0, 6, NO);
        y.mile(9);
        stones(due, y, 0, 3, 6, NO);
    }

    @Says("twice that, if g by his HABIT leaves nothing")
    static void p15OfADrunkOne(Due due) {
        MileRoad x = Roads.told(Roads.FOUR);
        stones(due, x, 2, 1, 2, 4, 4, 6, 6, NO, NO);
        // Twice at 3 and 6, all in all 3 6 12 15 18 24 27.
        MileRoad y = Roads.told("road 7;mile 12;drunk 3");
        stones(due, y, 0, 3, 6, NO);
        y.mile(13);
        stones(due, y, 0, 4, 7, NO);
    }

    @Says({"one who goes BACK over n .. 1", "(of one who goes BACK: n less his steps by then)"})
    static void p15OfOneWhoGoesBack(Due due) {
        stones(due, Roads.told(Roads.FOUR), 3, 5, 4, 3, 2, 0, 0, 0, NO);
        MileRoad x = Roads.told("road 5;hill 5 5 9;mile 10;back 1");
        // 10 14 18 22 26
        stones(due, x, 0, 4, 1, NO);
    }

    @Says("behind the first one at which all that he FELT comes to k MILES")
    static void p15ComesToItJust(Due due) {
        MileRoad x = Roads.told("road 6;mile 6;steady 1;back 3");
        stones(due, x, 0, 2, 4, 6, NO);
        stones(due, x, 1, 5, 4, 3, 2, 1, 0, NO);
    }

    @Says("behind the first one at which all that he FELT comes to k MILES")
    static void p15ComesNotYetToIt(Due due) {
        MileRoad x = Roads.told("road 6;mile 7;steady 1;back 3");
        stones(due, x, 0, 3, 5, NO);
        stones(due, x, 1, 4, 3, 2, 1, 0, NO);
    }

    @Says("behind the first one at which all that he FELT comes to k MILES")
    static void p15SeveralAtOneStep(Due due) {
        MileRoad x = Roads.told("road 4;hill 1 4 9;mile 1;steady 1;back 1");
        stones(due, x, 0, 1, 1, 1, 1, 1, 1, 1, 1);
        stones(due, x, 1, 3, 3, 3, 3, 3, 3, 3, 3);
    }

    @Says({"(g 1 ..)", "how many steps from the beginning of THE ROAD"})
    static void p15BehindTheFirstStep(Due due) {
        MileRoad x = Roads.told("road 20;mile 3;steady 9;old 1;drunk 9;back 9");
        stones(due, x, 0, 1);
        stones(due, x, 1, 1);
        stones(due, x, 2, 1);
        stones(due, x, 3, 19);
    }

    @Says("how many steps from the beginning of THE ROAD")
    static void p15BehindTheLastStep(Due due) {
        MileRoad shortest = Roads.told("road 4;hill 1 4 1;mile 4;steady 1;back 1");
        stones(due, shortest, 0, 4, NO);
        stones(due, shortest, 1, 2, 0, NO);
        MileRoad longest = Roads.told("road 20;hill 1 20 2;mile 40;steady 1;back 2;back 1");
        stones(due, longest, 0, 20, NO);
        stones(due, longest, 1, 10, 0, NO);
        stones(due, longest, 2, 6, NO);
    }

    @Says({"none, if that is never", "NONE"})
    static void p15NoneByOne(Due due) {
        MileRoad x = Roads.told("road 4;hill 1 4 1;mile 5;steady 1;old 4;drunk 5;back 1");
        stones(due, x, 0, NO);
        stones(due, x, 1, NO);
        stones(due, x, 2, NO);
        stones(due, x, 3, 1, NO);
        x.flatten(1, 2);
        stones(due, x, 0, 4, NO);
    }

    @Says("STONE k (1 .. 8)")
    static void p15TheEighthAtItsGreatest(Due due) {
        MileRoad x = Roads.told("road 20;hill 1 20 9;mile 40;old 1;drunk 1;back 9;steady 1");
        // 320 by 18 a step is at the eighteenth; an old one comes to 315 at the eighteenth.
        stones(due, x, 0, 4, 7, 10, 12, 14, 15, 17, 19);
        stones(due, x, 1, 3, 5, 7, 9, 12, 14, 16, 18);
        stones(due, x, 2, 17, 15, 13, 11, 8, 6, 4, 2);
        stones(due, x, 3, 5, 9, 14, 18, NO, NO, NO, NO);
    }

    @Says("UNKNOWN")
    static void p15UnknownBelow0(Due due) {
        for (int walker : new int[] {-1, Integer.MIN_VALUE}) {
            due.refused(MileRoad.UNKNOWN, Roads::some, "stone(" + walker + ", 1)", x -> x.stone(walker, 1));
        }
    }

    @Says("UNKNOWN")
    static void p15UnknownAboveTheLast(Due due) {
        due.is("stone(5, 1) of six", 11, Roads.told(Roads.FIVE_WALKERS + ";back 9").stone(5, 1));
        for (int walker : new int[] {4, 6, Integer.MAX_VALUE}) {
            due.refused(MileRoad.UNKNOWN, Roads::some, "stone(" + walker + ", 1)", x -> x.stone(walker, 1));
        }
        due.refused(MileRoad.UNKNOWN, Roads::full, "stone(6, 1)", x -> x.stone(6, 1));
        due.refused(MileRoad.UNKNOWN, MileRoad::new, "stone(0, 1)", x -> x.stone(0, 1));
    }

    @Says("OUTSIDE")
    static void p15OutsideBelow1(Due due) {
        for (int k : new int[] {0, -1, Integer.MIN_VALUE}) {
            due.refused(MileRoad.OUTSIDE, Roads::some, "stone(0, " + k + ")", x -> x.stone(0, k));
        }
    }

    @Says("OUTSIDE")
    static void p15OutsideAbove8(Due due) {
        for (int k : new int[] {9, 1 << 30, Integer.MAX_VALUE}) {
            due.refused(MileRoad.OUTSIDE, Roads::some, "stone(3, " + k + ")", x -> x.stone(3, k));
        }
    }

    @Says({"UNKNOWN; OUTSIDE", "the first of these that fits"})
    static void p15UnknownAndOutside(Due due) {
        due.refused(MileRoad.UNKNOWN, Roads::some, "stone(-1, 0)", x -> x.stone(-1, 0));
        due.refused(MileRoad.UNKNOWN, Roads::some, "stone(4, 9)", x -> x.stone(4, 9));
    }

    @Says("STONE k of a WALKER")
    static void p15ChangesNothing(Due due) {
        due.changesNothing(Roads::some, "stone(3, 2)", x -> x.stone(3, 2));
        due.changesNothing(Roads::full, "stone(0, 8)", x -> x.stone(0, 8));
    }

    // ---- law

    private static void law(Due due, MileRoad x, int k, int above, int below) {
        due.is("law(" + k + ", 0)", above, x.law(k, 0));
        due.is("law(" + k + ", 1)", below, x.law(k, 1));
    }

    @Says({"none, if nobody has", "NONE"})
    static void p16NobodyHasWalked(Due due) {
        MileRoad x = Roads.told(Roads.FOUR);
        for (int k = 1; k <= 8; k++) {
            law(due, x, k, NO, NO);
        }
        law(due, new MileRoad(), 1, NO, NO);
    }

    @Says({"none, if nobody has", "have one"})
    static void p16NobodyHasOne(Due due) {
        MileRoad x = Roads.walked(Roads.FOUR, 0, 1, 2, 3);
        law(due, x, 7, 0, 1);
        law(due, x, 8, NO, NO);
        law(due, Roads.walked(Roads.FOUR, 0), 4, 6, 1);
        law(due, Roads.walked(Roads.FOUR, 0), 5, NO, NO);
    }

    @Says("STONE k by THE LAW")
    static void p16OfOne(Due due) {
        MileRoad x = Roads.walked(Roads.FOUR, 1);
        int[] places = {1, 2, 4, 5, 6};
        for (int k = 1; k <= 5; k++) {
            law(due, x, k, places[k - 1], 1);
        }
    }

    @Says("THE LAW: STONE k stands at the mean of those of all who have WALKED")
    static void p16TheMean(Due due) {
        MileRoad x = Roads.walked(Roads.FOUR, 0, 1, 3);
        law(due, x, 1, 7, 3);
        law(due, x, 2, 8, 3);
        law(due, x, 3, 11, 3);
        law(due, x, 4, 13, 3);
        x.walks(2, 1);
        law(due, x, 4, 17, 4);
        x.walks(0, 0);
        law(due, x, 4, 11, 3);
    }

    @Says("of those of all who have WALKED and have one")
    static void p16OfThoseWhoHaveOne(Due due) {
        MileRoad x = Roads.walked(Roads.FOUR, 0, 1, 2, 3);
        law(due, x, 5, 4, 1);
        law(due, x, 6, 3, 1);
        x.walks(1, 0);
        law(due, x, 5, 3, 1);
    }

    @Says({"a fraction", "Parts are told in lowest terms: above (part 0), below (1)."})
    static void p16InLowestTerms(Due due) {
        // Six at 1 or 2: two at 2, then three, then four.
        MileRoad x = Roads.walked("mile 6;steady 1;steady 2;drunk 1;drunk 1;drunk 1;drunk 1", 0, 1, 2, 3, 4, 5);
        law(due, x, 1, 4, 3);
        MileRoad y = Roads.walked("mile 6;steady 1;steady 2;steady 3;drunk 1;drunk 1;drunk 1", 0, 1, 2, 3, 4, 5);
        law(due, y, 1, 3, 2);
        MileRoad z = Roads.walked("mile 6;steady 1;steady 2;steady 3;steady 4;drunk 1;drunk 1", 0, 1, 2, 3, 4, 5);
        law(due, z, 1, 5, 3);
        z.walks(4, 0);
        law(due, z, 1, 9, 5);
        z.walks(5, 0);
        law(due, z, 1, 2, 1);
    }

    @Says("a fraction")
    static void p16Sixths(Due due) {
        MileRoad x = Roads.walked("mile 6;steady 1;steady 2;steady 3;steady 4;steady 5;drunk 1", 0, 1, 2, 3, 4, 5);
        law(due, x, 1, 11, 6);
    }

    @Says("above (part 0)")
    static void p16AtTheBeginning(Due due) {
        MileRoad x = Roads.walked("road 4;mile 16;back 1;back 1", 0);
        law(due, x, 1, 0, 1);
        x.walks(1, 1);
        law(due, x, 1, 0, 1);
    }

    @Says("THE LAW: STONE k stands at the mean")
    static void p16AtItsGreatest(Due due) {
        MileRoad x = Roads.walked("road 20;hill 1 20 2;mile 5;" + STEADY_SIX, 0, 1, 2, 3, 4, 5);
        law(due, x, 8, 20, 1);
        law(due, x, 7, 18, 1);
    }

    @Says("OUTSIDE")
    static void p16OutsideBelow1(Due due) {
        for (int k : new int[] {0, -1, Integer.MIN_VALUE}) {
            due.refused(MileRoad.OUTSIDE, Roads::some, "law(" + k + ", 0)", x -> x.law(k, 0));
        }
    }

    @Says("OUTSIDE")
    static void p16OutsideAbove8(Due due) {
        law(due, Roads.walked("road 8;mile 3;steady 1", 0), 8, 8, 1);
        for (int k : new int[] {9, Integer.MAX_VALUE}) {
            due.refused(MileRoad.OUTSIDE, Roads::some, "law(" + k + ", 1)", x -> x.law(k, 1));
        }
    }

    @Says("OUTSIDE")
    static void p16OutsideOfTheParts(Due due) {
        for (int part : new int[] {-1, 2, Integer.MAX_VALUE, Integer.MIN_VALUE}) {
            due.refused(MileRoad.OUTSIDE, Roads::some, "law(1, " + part + ")", x -> x.law(1, part));
            due.refused(MileRoad.OUTSIDE, MileRoad::new, "law(1, " + part + "), none", x -> x.law(1, part));
        }
    }

    @Says("OUTSIDE")
    static void p16OutsideTwice(Due due) {
        due.refused(MileRoad.OUTSIDE, Roads::some, "law(0, -1)", x -> x.law(0, -1));
        due.refused(MileRoad.OUTSIDE, Roads::some, "law(9, 2)", x -> x.law(9, 2));
    }

    @Says("STONE k by THE LAW")
    static void p16ChangesNothing(Due due) {
        due.changesNothing(Roads::some, "law(1, 0)", x -> x.law(1, 0));
        due.changesNothing(Roads::full, "law(8, 1)", x -> x.law(8, 1));
    }

    // ---- crossed

    @Says({"CROSSED; NONE", "than the former; none"})
    static void p17NoneOfNobody(Due due) {
        due.is("crossed() of a new object", NO, new MileRoad().crossed());
        due.is("crossed() of nobody", NO, Roads.told(Roads.FOUR).crossed());
    }

    @Says({"CROSSED; NONE", "no further from the beginning than the former"})
    static void p17NoneInTheirOrder(Due due) {
        due.is("crossed() of four stones", NO, Roads.walked(Roads.FOUR, 0).crossed());
        due.is("crossed() of eight stones", NO, Roads.walked("road 8;mile 3;steady 1", 0).crossed());
    }

    @Says("and the latter no further from the beginning than the former")
    static void p17AtOnePlace(Due due) {
        due.is("crossed() of the drunk one", 3, Roads.walked(Roads.FOUR, 2).crossed());
        due.is("crossed() by means", 1, Roads.walked(Roads.FOUR, 0, 3).crossed());
    }

    @Says("and the latter no further from the beginning than the former")
    static void p17NearerTheBeginning(Due due) {
        due.is("crossed() of one who goes back", 1, Roads.walked(Roads.FOUR, 3).crossed());
        // At 2 5 and 4 3 3 2 1 1 0: by the law 3, 4, 3 and so on.
        MileRoad x = Roads.walked("road 5;hill 2 2 5;hill 3 3 2;hill 4 4 5;mile 8;steady 1;back 9", 0, 1);
        due.is("crossed() of 3 and what is behind", 2, x.crossed());
    }

    @Says("CROSSED: the first k")
    static void p17TheFirst(Due due) {
        // Steady, old and drunk: 1, 2, 4, 5, 6, 6.
        due.is("crossed() of three", 5, Roads.walked(Roads.FOUR, 0, 1, 2).crossed());
        due.is("crossed() at 3 and 5", 3, Roads.walked(Roads.FOUR, 2).crossed());
    }

    @Says("(1 .. 7)")
    static void p17TheFirstAndTheSecond(Due due) {
        due.is("crossed() at one step", 1, Roads.walked("road 4;hill 1 4 2;mile 1;steady 1", 0).crossed());
    }

    @Says("(1 .. 7)")
    static void p17TheSeventhAndTheEighth(Due due) {
        MileRoad x = Roads.walked("road 8;hill 1 7 1;hill 8 8 2;mile 1;drunk 7", 0);
        due.is("crossed() at the last ones", 7, x.crossed());
    }

    @Says("(1 .. 7)")
    static void p17NoneBehindTheEighth(Due due) {
        MileRoad x = Roads.walked("road 8;hill 1 8 1;mile 1;drunk 8", 0);
        due.is("crossed() with room for a ninth", NO, x.crossed());
    }

    @Says("such that STONES k and k + 1 stand by THE LAW")
    static void p17BothStand(Due due) {
        due.is("crossed() of one stone", NO, Roads.walked("road 4;mile 12;steady 1", 0).crossed());
        due.is("crossed() of no stone", NO, Roads.walked("road 4;mile 13;steady 1", 0).crossed());
        due.is("crossed() of one stone at the beginning", NO, Roads.walked("road 4;mile 16;back 1", 0).crossed());
    }

    @Says("no further from the beginning than the former")
    static void p17ByFractions(Due due) {
        // 1, 2, 3, 4, 5, 11/2, 6
        MileRoad x = Roads.walked("road 6;hill 1 6 1;mile 1;steady 1;drunk 5", 0, 1);
        due.is("law(6, 0)", 11, x.law(6, 0));
        due.is("crossed() of 5 and 11/2", NO, x.crossed());
        // 1, 2, 3, 7/2, 4
        MileRoad y = Roads.walked("road 4;hill 1 4 1;mile 1;steady 1;drunk 3", 0, 1);
        due.is("law(4, 0)", 7, y.law(4, 0));
        due.is("crossed() of 7/2 and 4", NO, y.crossed());
    }

    @Says("CROSSED")
    static void p17ChangesNothing(Due due) {
        due.changesNothing(Roads::some, "crossed()", MileRoad::crossed);
        due.changesNothing(Roads::full, "crossed()", MileRoad::crossed);
        due.changesNothing(StonesTest::oneSeen, "crossed() of none", MileRoad::crossed);
    }

    private static MileRoad oneSeen() {
        MileRoad x = Roads.walked(Roads.FOUR, 0);
        x.seen(0, 1, 1);
        return x;
    }

    // ---- books

    private static void books(Due due, MileRoad x, int a, int b, int want) {
        due.is("books(" + a + ", " + b + ")", want, x.books(a, b));
        due.is("books(" + b + ", " + a + ")", want, x.books(b, a));
    }

    /** By the law: 1, 2, 4, 11/2, 6. */
    private static MileRoad twoOfFour() {
        return Roads.walked(Roads.FOUR, 0, 1);
    }

    @Says("how many STONES stand by THE LAW")
    static void p18OfNobody(Due due) {
        books(due, Roads.told(Roads.FOUR), 0, 6, 0);
        books(due, new MileRoad(), 0, 12, 0);
    }

    @Says("how many STONES stand by THE LAW")
    static void p18AllTheRoad(Due due) {
        books(due, twoOfFour(), 0, 6, 5);
    }

    @Says("how many STONES stand by THE LAW")
    static void p18AllEight(Due due) {
        MileRoad x = Roads.walked("road 20;hill 1 20 2;mile 5;steady 1", 0);
        books(due, x, 0, 20, 8);
        books(due, x, 19, 20, 1);
        books(due, x, 0, 19, 7);
    }

    @Says("how many STONES stand by THE LAW")
    static void p18NoNinth(Due due) {
        MileRoad x = Roads.walked("road 9;mile 3;steady 1", 0);
        books(due, x, 0, 9, 8);
        books(due, x, 8, 9, 0);
    }

    @Says("beyond the nearer one of both")
    static void p18BeyondTheNearer(Due due) {
        books(due, twoOfFour(), 1, 3, 1);
        books(due, twoOfFour(), 2, 3, 0);
        books(due, twoOfFour(), 0, 3, 2);
        books(due, twoOfFour(), 4, 6, 2);
    }

    @Says("not beyond the farther one")
    static void p18NotBeyondTheFarther(Due due) {
        books(due, twoOfFour(), 0, 1, 1);
        books(due, twoOfFour(), 3, 4, 1);
        books(due, twoOfFour(), 3, 5, 1);
        books(due, twoOfFour(), 2, 4, 1);
    }

    @Says({"BOOKS of places a, b", "the nearer one of both"})
    static void p18OnePlaceTwice(Due due) {
        for (int place = 0; place <= 6; place++) {
            books(due, twoOfFour(), place, place, 0);
        }
    }

    @Says("BOOKS of places a, b (0 .. n; steps from the beginning)")
    static void p18AtTheBeginning(Due due) {
        // By the law: 5 4 3 2 0 0 0.
        MileRoad x = Roads.walked(Roads.FOUR, 3);
        books(due, x, 0, 6, 4);
        books(due, x, 0, 1, 0);
        books(due, x, 0, 0, 0);
    }

    @Says("beyond the nearer one of both, and not beyond the farther one")
    static void p18ByFractions(Due due) {
        books(due, twoOfFour(), 4, 5, 0);
        books(due, twoOfFour(), 5, 6, 2);
        // By the law: 7/3, 8/3, 11/3, 13/3, 3, 0, 0.
        MileRoad x = Roads.walked(Roads.FOUR, 0, 1, 3);
        books(due, x, 2, 3, 3);
        books(due, x, 3, 4, 1);
        books(due, x, 4, 5, 1);
        books(due, x, 0, 2, 0);
    }

    @Says("OUTSIDE")
    static void p18OutsideBelow0(Due due) {
        for (int place : new int[] {-1, Integer.MIN_VALUE}) {
            due.refused(MileRoad.OUTSIDE, Roads::some, "books(" + place + ", 3)", x -> x.books(place, 3));
            due.refused(MileRoad.OUTSIDE, Roads::some, "books(3, " + place + ")", x -> x.books(3, place));
        }
    }

    @Says("OUTSIDE")
    static void p18OutsideAboveN(Due due) {
        for (int place : new int[] {7, 12, 20, Integer.MAX_VALUE}) {
            due.refused(MileRoad.OUTSIDE, Roads::some, "books(" + place + ", 3)", x -> x.books(place, 3));
            due.refused(MileRoad.OUTSIDE, Roads::some, "books(3, " + place + ")", x -> x.books(3, place));
        }
        due.refused(MileRoad.OUTSIDE, Roads::full, "books(0, 21)", x -> x.books(0, 21));
    }

    @Says("OUTSIDE")
    static void p18OutsideTwice(Due due) {
        due.refused(MileRoad.OUTSIDE, Roads::some, "books(-1, 7)", x -> x.books(-1, 7));
        due.refused(MileRoad.OUTSIDE, Roads::some, "books(7, 7)", x -> x.books(7, 7));
        due.refused(MileRoad.OUTSIDE, Roads::some, "books(-1, -1)", x -> x.books(-1, -1));
    }

    @Says("BOOKS. OUTSIDE.")
    static void p18ChangesNothing(Due due) {
        due.changesNothing(Roads::some, "books(6, 0)", x -> x.books(6, 0));
        due.changesNothing(Roads::full, "books(0, 20)", x -> x.books(0, 20));
    }
}
