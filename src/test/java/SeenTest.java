/** Promises 21 to 26: seen, forget, what, miles, cider, count. */
public final class SeenTest {
    private static final int NO = MileRoad.NONE;

    public static void main(String[] args) throws IllegalAccessException {
        Due.runAll(SeenTest.class);
    }

    // ---- seen

    @Says({"SEEN: how many", "SEEN, 6 at most"})
    static void p21HowMany(Due due) {
        MileRoad x = Roads.told(Roads.FOUR);
        for (int i = 1; i <= 6; i++) {
            due.is("seen(" + i % 4 + ", 8, 6), " + i, i, x.seen(i % 4, 8, 6));
        }
        due.is("count(6)", 6, x.count(6));
    }

    @Says("SEEN: how many")
    static void p21TheSameAgain(Due due) {
        MileRoad x = Roads.told(Roads.FOUR);
        due.is("seen(0, 1, 1)", 1, x.seen(0, 1, 1));
        due.is("seen(0, 1, 1) again", 2, x.seen(0, 1, 1));
        due.is("seen(0, 1, 2)", 3, x.seen(0, 1, 2));
    }

    @Says("STONE k of a WALKER stood at p (0 .. n)")
    static void p21StonesAndPlacesAtTheirEnds(Due due) {
        MileRoad x = Roads.told("road 20;" + Roads.FIVE_WALKERS + ";back 9");
        due.is("seen(0, 1, 0)", 1, x.seen(0, 1, 0));
        due.is("seen(0, 8, 20)", 2, x.seen(0, 8, 20));
        due.is("seen(5, 8, 0)", 3, x.seen(5, 8, 0));
        due.is("seen(5, 1, 20)", 4, x.seen(5, 1, 20));
        due.is("seen(0, 1, 4) of 4 steps", 1, Roads.told("road 4;old 1").seen(0, 1, 4));
    }

    @Says("UNKNOWN")
    static void p21UnknownBelow0(Due due) {
        for (int walker : new int[] {-1, Integer.MIN_VALUE}) {
            due.refused(MileRoad.UNKNOWN, Roads::some, "seen(" + walker + ", 1, 1)", x -> x.seen(walker, 1, 1));
        }
    }

    @Says("UNKNOWN")
    static void p21UnknownAboveTheLast(Due due) {
        for (int walker : new int[] {4, 5, 6, Integer.MAX_VALUE}) {
            due.refused(MileRoad.UNKNOWN, Roads::some, "seen(" + walker + ", 1, 1)", x -> x.seen(walker, 1, 1));
        }
        due.refused(MileRoad.UNKNOWN, MileRoad::new, "seen(0, 1, 1)", x -> x.seen(0, 1, 1));
    }

    @Says("OUTSIDE")
    static void p21OutsideOfTheStones(Due due) {
        for (int k : new int[] {0, 9, -1, Integer.MAX_VALUE, Integer.MIN_VALUE}) {
            due.refused(MileRoad.OUTSIDE, Roads::some, "seen(0, " + k + ", 1)", x -> x.seen(0, k, 1));
        }
    }

    @Says("OUTSIDE")
    static void p21OutsideBelow0(Due due) {
        for (int p : new int[] {-1, Integer.MIN_VALUE}) {
            due.refused(MileRoad.OUTSIDE, Roads::some, "seen(0, 1, " + p + ")", x -> x.seen(0, 1, p));
        }
    }

    @Says("OUTSIDE")
    static void p21OutsideAboveN(Due due) {
        for (int p : new int[] {7, 12, 20, Integer.MAX_VALUE}) {
            due.refused(MileRoad.OUTSIDE, Roads::some, "seen(0, 1, " + p + ")", x -> x.seen(0, 1, p));
        }
        due.is("seen(0, 1, 21) of 20 steps", MileRoad.OUTSIDE, Roads.told("road 20;old 1").seen(0, 1, 21));
    }

    @Says("OUTSIDE")
    static void p21OutsideTwice(Due due) {
        due.refused(MileRoad.OUTSIDE, Roads::some, "seen(0, 0, 7)", x -> x.seen(0, 0, 7));
        due.refused(MileRoad.OUTSIDE, Roads::some, "seen(0, 9, -1)", x -> x.seen(0, 9, -1));
    }

    @Says({"FULL", "SEEN, 6 at most"})
    static void p21FullAt6(Due due) {
        due.refused(MileRoad.FULL, Roads::full, "seen(0, 1, 0), a seventh", x -> x.seen(0, 1, 0));
        due.refused(MileRoad.FULL, Roads::full, "seen(5, 8, 20), a seventh", x -> x.seen(5, 8, 20));
    }

    @Says({"UNKNOWN; OUTSIDE; FULL", "the first of these that fits"})
    static void p21UnknownAndOutside(Due due) {
        due.refused(MileRoad.UNKNOWN, Roads::some, "seen(4, 0, 1)", x -> x.seen(4, 0, 1));
        due.refused(MileRoad.UNKNOWN, Roads::some, "seen(-1, 1, 7)", x -> x.seen(-1, 1, 7));
    }

    @Says({"UNKNOWN; OUTSIDE; FULL", "the first of these that fits"})
    static void p21UnknownAndFull(Due due) {
        due.refused(MileRoad.UNKNOWN, Roads::full, "seen(6, 1, 1)", x -> x.seen(6, 1, 1));
        due.refused(MileRoad.UNKNOWN, Roads::full, "seen(-1, 1, 1)", x -> x.seen(-1, 1, 1));
    }

    @Says({"UNKNOWN; OUTSIDE; FULL", "the first of these that fits"})
    static void p21OutsideAndFull(Due due) {
        due.refused(MileRoad.OUTSIDE, Roads::full, "seen(0, 9, 1)", x -> x.seen(0, 9, 1));
        due.refused(MileRoad.OUTSIDE, Roads::full, "seen(0, 1, 21)", x -> x.seen(0, 1, 21));
    }

    @Says({"UNKNOWN; OUTSIDE; FULL", "FULL: the first of these that fits"})
    static void p21AllThree(Due due) {
        due.refused(MileRoad.UNKNOWN, Roads::full, "seen(6, 0, 21)", x -> x.seen(6, 0, 21));
    }

    // ---- forget

    @Says({"SEEN is nothing", "how many there were"})
    static void p22OfNothing(Due due) {
        due.is("forget() of a new object", 0, new MileRoad().forget());
        due.changesNothing(() -> Roads.walked(Roads.FOUR, 1, 2), "forget() of nothing", MileRoad::forget);
    }

    @Says({"SEEN is nothing", "how many there were"})
    static void p22OfSix(Due due) {
        MileRoad x = Roads.full();
        due.is("forget()", 6, x.forget());
        due.is("count(6)", 0, x.count(6));
        due.is("forget() again", 0, x.forget());
        for (int i = 1; i <= 6; i++) {
            due.is("seen(0, 1, 1) behind it, " + i, i, x.seen(0, 1, 1));
        }
        due.is("seen(0, 1, 1), a seventh", MileRoad.FULL, x.seen(0, 1, 1));
    }

    @Says("SEEN is nothing")
    static void p22NothingIsKnownThen(Due due) {
        MileRoad x = Roads.told(Roads.FOUR);
        x.seen(0, 1, 6);
        due.is("what(0)", 0, x.what(0));
        due.is("miles(0)", 4, x.miles(0));
        due.is("forget()", 1, x.forget());
        due.is("what(0), forgotten", 15, x.what(0));
        due.is("miles(0), forgotten", 40, x.miles(0));
    }

    @Says("SEEN is nothing")
    static void p22NothingElseChanges(Due due) {
        due.changesNothing(() -> Roads.walked(Roads.FOUR, 1, 2), "seen() and forget()", x -> {
            x.seen(0, 1, 1);
            return x.forget();
        });
    }

    // ---- what

    private static void whatOfEach(Due due, int k, int p, int want) {
        MileRoad x = Roads.told(Roads.FOUR);
        for (int walker = 0; walker < 4; walker++) {
            x.seen(walker, k, p);
            due.is("what(" + walker + ") by stone " + k + " at " + p, want, x.what(walker));
        }
    }

    @Says({"WHAT of him: KINDS (0 .. 3, by bits)", "WHAT, by bits"})
    static void p23ByEachKind(Due due) {
        whatOfEach(due, 4, 6, 1);
        whatOfEach(due, 4, 5, 2);
        whatOfEach(due, 4, 4, 4);
        whatOfEach(due, 4, 2, 8);
    }

    @Says("WHAT of him: KINDS (0 .. 3, by bits)")
    static void p23BySeveralKinds(Due due) {
        whatOfEach(due, 1, 1, 7);
        whatOfEach(due, 5, 6, 6);
        whatOfEach(due, 3, 4, 7);
    }

    @Says("by which, his HABIT as told, all that is SEEN of him would be so")
    static void p23ByNoKind(Due due) {
        whatOfEach(due, 4, 3, 0);
        whatOfEach(due, 1, 0, 0);
        // Stone 8 is never felt, by whatever kind.
        whatOfEach(due, 8, 6, 0);
        whatOfEach(due, 8, 0, 0);
    }

    @Says("STONE k of a WALKER stood at p (0 .. n)")
    static void p23AtTheBeginning(Due due) {
        whatOfEach(due, 7, 0, 8);
        whatOfEach(due, 5, 0, 8);
    }

    @Says("all that is SEEN of him would be so")
    static void p23NothingIsSeenOfHim(Due due) {
        MileRoad x = Roads.told(Roads.FOUR);
        due.is("what(3) of nothing", 15, x.what(3));
        x.seen(1, 4, 3);
        due.is("what(1)", 0, x.what(1));
        due.is("what(0) of nothing", 15, x.what(0));
        due.is("what(2) of nothing", 15, x.what(2));
        due.is("what(3) of nothing", 15, x.what(3));
    }

    @Says("all that is SEEN of him would be so")
    static void p23AllThatIsSeen(Due due) {
        MileRoad x = Roads.told(Roads.FOUR);
        x.seen(1, 1, 1);
        due.is("what(1) by one", 7, x.what(1));
        x.seen(1, 5, 6);
        due.is("what(1) by two", 6, x.what(1));
        x.seen(1, 4, 4);
        due.is("what(1) by three", 4, x.what(1));
        x.seen(0, 4, 3);
        x.seen(1, 3, 4);
        due.is("what(1) by four", 4, x.what(1));
        x.seen(1, 4, 5);
        due.is("what(1) by the sixth", 0, x.what(1));
    }

    @Says("his HABIT as told")
    static void p23HisHabit(Due due) {
        // Stone 2 of an old one by 1 is at 5, of one who goes back by 2 at 7; stone 1 of a drunk one by 1 at 2.
        MileRoad x = Roads.told("mile 12;steady 1;old 2;drunk 1;back 3");
        x.seen(0, 2, 5);
        x.seen(1, 2, 7);
        x.seen(2, 1, 2);
        x.seen(3, 1, 10);
        due.is("what(0), habit 1", 2, x.what(0));
        due.is("what(1), habit 2", 8, x.what(1));
        due.is("what(2), habit 1", 4, x.what(2));
        due.is("what(3), habit 3", 8, x.what(3));
    }

    @Says("by which, his HABIT as told, all that is SEEN of him would be so")
    static void p23ByTheRoadAsItIs(Due due) {
        MileRoad x = Roads.told(Roads.FOUR);
        x.seen(2, 1, 3);
        due.is("what(2)", 0, x.what(2));
        x.flatten(1, 1);
        due.is("what(2) by an easier step", 7, x.what(2));
        x.mile(40);
        due.is("what(2) by a longer mile", 0, x.what(2));
        x.undo();
        due.is("what(2) by the mile again", 7, x.what(2));
    }

    @Says("UNKNOWN")
    static void p23UnknownBelow0(Due due) {
        for (int walker : new int[] {-1, Integer.MIN_VALUE}) {
            due.refused(MileRoad.UNKNOWN, Roads::some, "what(" + walker + ")", x -> x.what(walker));
        }
    }

    @Says("UNKNOWN")
    static void p23UnknownAboveTheLast(Due due) {
        due.is("what(5) of six", 15, Roads.told(Roads.FIVE_WALKERS + ";back 9").what(5));
        for (int walker : new int[] {4, 5, 6, Integer.MAX_VALUE}) {
            due.refused(MileRoad.UNKNOWN, Roads::some, "what(" + walker + ")", x -> x.what(walker));
        }
        due.refused(MileRoad.UNKNOWN, Roads::full, "what(6)", x -> x.what(6));
        due.refused(MileRoad.UNKNOWN, MileRoad::new, "what(0)", x -> x.what(0));
    }

    @Says("FORETOLD (nothing changes)")
    static void p23ChangesNothing(Due due) {
        due.changesNothing(Roads::some, "what(1)", x -> x.what(1));
        due.changesNothing(Roads::full, "what(5)", x -> x.what(5));
    }

    // ---- miles

    private static void miles(Due due, MileRoad x, int number, int least) {
        due.is("miles(0)", number, x.miles(0));
        due.is("miles(1)", least, x.miles(1));
    }

    @Says("MILES: how many MILES (1 .. 40) there are")
    static void p24NothingIsSeen(Due due) {
        miles(due, new MileRoad(), 40, 1);
        miles(due, Roads.told(Roads.FOUR), 40, 1);
    }

    @Says({"MILES: how many (what 0)", "the least (1; NONE)"})
    static void p24HowManyAndTheLeast(Due due) {
        MileRoad x = Roads.told(Roads.FOUR);
        x.seen(0, 1, 3);
        miles(due, x, 3, 11);
        x.forget();
        x.seen(0, 2, 3);
        miles(due, x, 1, 6);
    }

    @Says("(1 .. 40)")
    static void p24OneIsTheLeast(Due due) {
        MileRoad x = Roads.told(Roads.FOUR);
        x.seen(0, 1, 1);
        miles(due, x, 9, 1);
        x.seen(0, 8, 1);
        miles(due, x, 1, 1);
    }

    @Says("(1 .. 40)")
    static void p24FortyIsTheGreatest(Due due) {
        MileRoad x = Roads.told("road 20;hill 1 20 9;steady 1");
        x.seen(0, 1, 5);
        miles(due, x, 4, 37);
        x.flatten(1, 6);
        x.flatten(2, 6);
        x.flatten(3, 9);
        x.flatten(4, 9);
        x.flatten(5, 9);
        // 39 at the fifth, 48 at the sixth: only forty is there, where one beyond were, too.
        x.forget();
        x.seen(0, 1, 6);
        miles(due, x, 1, 40);
    }

    @Says("the least; none.")
    static void p24None(Due due) {
        MileRoad x = Roads.told(Roads.FOUR);
        x.seen(1, 1, 0);
        miles(due, x, 0, NO);
        x.forget();
        x.seen(0, 8, 1);
        x.seen(0, 1, 2);
        miles(due, x, 0, NO);
    }

    @Says("by which all that is SEEN would be so")
    static void p24AllThatIsSeen(Due due) {
        MileRoad x = Roads.told(Roads.FOUR);
        x.seen(0, 1, 3);
        miles(due, x, 3, 11);
        x.seen(3, 2, 1);
        miles(due, x, 2, 11);
        x.seen(2, 1, 3);
        miles(due, x, 1, 12);
        x.seen(1, 1, 3);
        x.seen(0, 1, 3);
        miles(due, x, 1, 12);
        x.seen(0, 2, 6);
        miles(due, x, 0, NO);
    }

    @Says("(KINDS as told)")
    static void p24KindsAsTold(Due due) {
        int[] number = {4, 6, 8, 11};
        int[] least = {20, 24, 24, 25};
        int[] places = {6, 6, 6, 0};
        for (int walker = 0; walker < 4; walker++) {
            MileRoad x = Roads.told(Roads.FOUR);
            x.seen(walker, 1, places[walker]);
            miles(due, x, number[walker], least[walker]);
        }
    }

    @Says("how many MILES (1 .. 40) there are by which")
    static void p24WhateverTheMileIs(Due due) {
        MileRoad x = Roads.told(Roads.FOUR);
        x.seen(0, 1, 3);
        for (int m = 1; m <= 40; m += 13) {
            x.mile(m);
            miles(due, x, 3, 11);
        }
        x.flatten(1, 6);
        miles(due, x, 3, 8);
    }

    @Says("OUTSIDE")
    static void p24OutsideBelow0(Due due) {
        for (int what : new int[] {-1, Integer.MIN_VALUE}) {
            due.refused(MileRoad.OUTSIDE, Roads::some, "miles(" + what + ")", x -> x.miles(what));
        }
    }

    @Says("OUTSIDE")
    static void p24OutsideAbove1(Due due) {
        for (int what : new int[] {2, Integer.MAX_VALUE}) {
            due.refused(MileRoad.OUTSIDE, Roads::full, "miles(" + what + ")", x -> x.miles(what));
            due.refused(MileRoad.OUTSIDE, MileRoad::new, "miles(" + what + ")", x -> x.miles(what));
        }
    }

    @Says("FORETOLD (nothing changes)")
    static void p24ChangesNothing(Due due) {
        due.changesNothing(Roads::some, "miles(0)", x -> x.miles(0));
        due.changesNothing(Roads::full, "miles(1)", x -> x.miles(1));
    }

    // ---- cider

    private static void cider(Due due, MileRoad x, int k, int p, int q, int above, int below) {
        String call = "cider(" + k + ", " + p + ", " + q + ", ";
        due.is(call + "0)", above, x.cider(k, p, q, 0));
        due.is(call + "1)", below, x.cider(k, p, q, 1));
    }

    /** One whose stone 1 is at 2, of 6. */
    private static MileRoad one() {
        return Roads.told("road 6;mile 5;steady 1");
    }

    @Says("if each of them WALKS by q of ten (0 .. 10), by himself")
    static void p25ByQOfTen(Due due) {
        cider(due, one(), 1, 3, 1, 9, 10);
        cider(due, one(), 1, 3, 3, 7, 10);
        cider(due, one(), 1, 3, 7, 3, 10);
        cider(due, one(), 1, 3, 9, 1, 10);
    }

    @Says("by q of ten (0 .. 10)")
    static void p25NobodyGoes(Due due) {
        cider(due, one(), 1, 3, 0, 1, 1);
        cider(due, Roads.told(Roads.FOUR), 4, 6, 0, 1, 1);
    }

    @Says("by q of ten (0 .. 10)")
    static void p25AllGo(Due due) {
        cider(due, one(), 1, 3, 10, 0, 1);
        cider(due, one(), 1, 2, 10, 1, 1);
        // All four come to 17/4.
        cider(due, Roads.told(Roads.FOUR), 4, 4, 10, 1, 1);
        cider(due, Roads.told(Roads.FOUR), 4, 5, 10, 0, 1);
    }

    @Says("(of all WALKERS) not short of p")
    static void p25NotShortOfP(Due due) {
        cider(due, one(), 1, 2, 3, 1, 1);
        cider(due, one(), 1, 3, 3, 7, 10);
        // Stone 4 at 6 and 5: at 11/2, if both go.
        MileRoad x = Roads.told("road 6; hill 1 1 9; hill 2 2 1; hill 6 6 4; mile 5; steady 2; old 2");
        cider(due, x, 4, 5, 1, 1, 1);
        cider(due, x, 4, 6, 1, 9, 10);
    }

    @Says("by himself")
    static void p25EachByHimself(Due due) {
        cider(due, Roads.told(Roads.FOUR), 4, 5, 5, 3, 8);
        MileRoad x = Roads.told("road 6;mile 5;steady 1;steady 1");
        cider(due, x, 1, 3, 1, 81, 100);
        cider(due, x, 1, 3, 7, 9, 100);
    }

    @Says("where it stands for nobody counts as n.")
    static void p25ForNobody(Due due) {
        cider(due, new MileRoad(), 1, 12, 5, 1, 1);
        cider(due, Roads.told(Roads.FOUR), 8, 6, 10, 1, 1);
        cider(due, one(), 4, 6, 9, 1, 1);
        cider(due, Roads.told("road 20;mile 3;old 1"), 1, 20, 4, 3, 5);
    }

    @Says("(of all WALKERS)")
    static void p25OfAllWalkers(Due due) {
        MileRoad x = Roads.told(Roads.FOUR);
        for (int walker = 0; walker < 4; walker++) {
            cider(due, x, 4, 5, 5, 3, 8);
            x.walks(walker, 1);
        }
        cider(due, x, 4, 5, 5, 3, 8);
    }

    @Says("CIDER: the odds that STONE k stands by THE LAW")
    static void p25AtBothEnds(Due due) {
        cider(due, Roads.told(Roads.FOUR), 7, 0, 5, 1, 1);
        cider(due, Roads.told(Roads.FOUR), 7, 1, 5, 1, 2);
        cider(due, Roads.told(Roads.FOUR), 1, 6, 10, 0, 1);
        cider(due, Roads.told(Roads.FOUR), 1, 6, 1, 6561, 10000);
    }

    @Says("Parts are told in lowest terms")
    static void p25InLowestTerms(Due due) {
        cider(due, one(), 1, 3, 4, 3, 5);
        cider(due, one(), 1, 3, 5, 1, 2);
        cider(due, one(), 1, 3, 2, 4, 5);
        cider(due, one(), 1, 3, 10, 0, 1);
    }

    @Says("CIDER: the odds")
    static void p25AtItsGreatest(Due due) {
        MileRoad x = Roads.told("road 6;mile 5;steady 1;steady 2;steady 3;steady 4;steady 5;steady 6");
        cider(due, x, 1, 3, 3, 117649, 1000000);
        cider(due, x, 1, 3, 9, 1, 1000000);
        cider(due, x, 1, 3, 1, 531441, 1000000);
        cider(due, x, 1, 2, 9, 1, 1);
        MileRoad y = Roads.told("road 6;mile 5;steady 1;back 2;back 3;back 4;back 5;back 6");
        // Only he who is at 2, alone, is short of it.
        cider(due, y, 1, 3, 9, 999991, 1000000);
    }

    @Says("OUTSIDE")
    static void p25OutsideOfTheStones(Due due) {
        cider(due, Roads.told("road 8;mile 3;steady 1"), 8, 8, 10, 1, 1);
        for (int k : new int[] {0, 9, -1, Integer.MAX_VALUE, Integer.MIN_VALUE}) {
            due.refused(MileRoad.OUTSIDE, Roads::some, "cider(" + k + ", 3, 5, 0)", x -> x.cider(k, 3, 5, 0));
        }
    }

    @Says("OUTSIDE")
    static void p25OutsideOfTheRoad(Due due) {
        for (int p : new int[] {-1, 7, 20, Integer.MAX_VALUE, Integer.MIN_VALUE}) {
            due.refused(MileRoad.OUTSIDE, Roads::some, "cider(1, " + p + ", 5, 0)", x -> x.cider(1, p, 5, 0));
        }
        due.refused(MileRoad.OUTSIDE, Roads::full, "cider(1, 21, 5, 0)", x -> x.cider(1, 21, 5, 0));
    }

    @Says("OUTSIDE")
    static void p25OutsideOfTen(Due due) {
        for (int q : new int[] {-1, 11, Integer.MAX_VALUE, Integer.MIN_VALUE}) {
            due.refused(MileRoad.OUTSIDE, Roads::some, "cider(1, 3, " + q + ", 0)", x -> x.cider(1, 3, q, 0));
        }
    }

    @Says("OUTSIDE")
    static void p25OutsideOfTheParts(Due due) {
        for (int part : new int[] {-1, 2, Integer.MAX_VALUE, Integer.MIN_VALUE}) {
            due.refused(MileRoad.OUTSIDE, Roads::some, "cider(1, 3, 5, " + part + ")", x -> x.cider(1, 3, 5, part));
        }
    }

    @Says("CIDER. OUTSIDE.")
    static void p25OutsideTwice(Due due) {
        due.refused(MileRoad.OUTSIDE, Roads::some, "cider(0, 7, 5, 0)", x -> x.cider(0, 7, 5, 0));
        due.refused(MileRoad.OUTSIDE, Roads::some, "cider(1, 3, 11, 2)", x -> x.cider(1, 3, 11, 2));
        due.refused(MileRoad.OUTSIDE, Roads::some, "cider(9, -1, -1, -1)", x -> x.cider(9, -1, -1, -1));
    }

    @Says("FORETOLD (nothing changes)")
    static void p25ChangesNothing(Due due) {
        due.changesNothing(Roads::some, "cider(2, 3, 7, 0)", x -> x.cider(2, 3, 7, 0));
        due.changesNothing(Roads::full, "cider(1, 20, 10, 1)", x -> x.cider(1, 20, 10, 1));
    }

    // ---- count

    @Says("0 STEPS")
    static void p26Steps(Due due) {
        due.is("count(0) of 4", 4, Roads.told("road 4").count(0));
        due.is("count(0) of 20", 20, Roads.told("road 20").count(0));
    }

    @Says("1 WALKERS")
    static void p26Walkers(Due due) {
        due.is("count(1) of none", 0, new MileRoad().count(1));
        due.is("count(1) of six", 6, Roads.full().count(1));
    }

    @Says("2 the MILE")
    static void p26TheMile(Due due) {
        MileRoad x = Roads.told("mile 1");
        due.is("count(2)", 1, x.count(2));
        x.mile(40);
        due.is("count(2)", 40, x.count(2));
    }

    @Says("3 those who have WALKED, by bits")
    static void p26ThoseWhoHaveWalked(Due due) {
        due.is("count(3) of nobody", 0, Roads.told(Roads.FOUR).count(3));
        due.is("count(3) of the second and the fourth", 10, Roads.walked(Roads.FOUR, 3, 1).count(3));
        due.is("count(3) of all six", 63, Roads.full().count(3));
    }

    @Says("4 how HARD all STEPS are together")
    static void p26HowHardAllAre(Due due) {
        due.is("count(4) at its least", 4, Roads.told("road 4;hill 1 4 1").count(4));
        MileRoad x = Roads.told("road 20;hill 1 20 9");
        due.is("count(4) at its greatest", 180, x.count(4));
        x.flatten(20, 1);
        x.flatten(1, 2);
        due.is("count(4), flattened", 165, x.count(4));
    }

    @Says("5 STONES that stand by THE LAW")
    static void p26StonesByTheLaw(Due due) {
        due.is("count(5) of nobody", 0, Roads.told(Roads.FOUR).count(5));
        due.is("count(5) of none who has one", 0, Roads.walked("road 4;mile 13;steady 1", 0).count(5));
        due.is("count(5) of two", 5, Roads.walked(Roads.FOUR, 0, 1).count(5));
        due.is("count(5) of all eight", 8, Roads.walked("road 8;mile 3;steady 1", 0).count(5));
        due.is("count(5) with room for a ninth", 8, Roads.walked("road 9;mile 3;steady 1", 0).count(5));
    }

    @Says("5 STONES that stand by THE LAW")
    static void p26StonesAtTheBeginning(Due due) {
        due.is("count(5) of one who goes back", 7, Roads.walked(Roads.FOUR, 3).count(5));
    }

    @Says("6 SEEN")
    static void p26Seen(Due due) {
        due.is("count(6) of none", 0, Roads.told(Roads.FOUR).count(6));
        due.is("count(6) of two", 2, Roads.some().count(6));
        due.is("count(6) of six", 6, Roads.full().count(6));
    }

    @Says("7 how many can be undone")
    static void p26HowManyCanBeUndone(Due due) {
        due.is("count(7) of none", 0, Roads.told(Roads.FOUR).count(7));
        MileRoad x = Roads.some();
        due.is("count(7) of five", 5, x.count(7));
        x.undo();
        due.is("count(7) of four", 4, x.count(7));
        due.is("count(7) of eight", 8, Roads.full().count(7));
    }

    @Says("8 letters of THE TEXT")
    static void p26Letters(Due due) {
        due.is("count(8) of none", 0, Roads.told(Roads.FOUR).count(8));
        due.is("count(8) of thirteen", 13, Roads.some().count(8));
        due.is("count(8) of all", 160, Roads.full().count(8));
    }

    @Says("OUTSIDE")
    static void p26OutsideBelow0(Due due) {
        for (int what : new int[] {-1, Integer.MIN_VALUE}) {
            due.refused(MileRoad.OUTSIDE, Roads::some, "count(" + what + ")", x -> x.count(what));
        }
    }

    @Says("OUTSIDE")
    static void p26OutsideAbove8(Due due) {
        for (int what : new int[] {9, Integer.MAX_VALUE}) {
            due.refused(MileRoad.OUTSIDE, Roads::full, "count(" + what + ")", x -> x.count(what));
        }
    }

    @Says("0 STEPS, 1 WALKERS, 2 the MILE")
    static void p26ChangesNothing(Due due) {
        for (int what = 0; what <= 8; what++) {
            int asked = what;
            due.changesNothing(Roads::some, "count(" + what + ")", x -> x.count(asked));
        }
    }
}
