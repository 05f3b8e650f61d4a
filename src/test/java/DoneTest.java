/** Promises 9 to 14: walks, flatten, mile, undo, keep, back. */
public final class DoneTest {
    private static final String TWO = "road 8; mile 6; steady 1; back 2";

    public static void main(String[] args) throws IllegalAccessException {
        Due.runAll(DoneTest.class);
    }

    // ---- walks

    @Says({"One has WALKED (on 1), or not (0)", "whether he had"})
    static void p09FromNotToWalked(Due due) {
        MileRoad x = Roads.told(TWO);
        due.is("walks(1, 1)", 0, x.walks(1, 1));
        due.is("count(3)", 2, x.count(3));
        due.is("walks(0, 1)", 0, x.walks(0, 1));
        due.is("count(3) of both", 3, x.count(3));
    }

    @Says({"One has WALKED (on 1), or not (0)", "whether he had"})
    static void p09FromWalkedToNot(Due due) {
        MileRoad x = Roads.walked(TWO, 0, 1);
        due.is("walks(1, 0)", 1, x.walks(1, 0));
        due.is("count(3)", 1, x.count(3));
        due.is("walks(0, 0)", 1, x.walks(0, 0));
        due.is("count(3) of nobody", 0, x.count(3));
    }

    @Says({"One has WALKED (on 1), or not (0)", "whether he had"})
    static void p09AsItWas(Due due) {
        MileRoad x = Roads.walked(TWO, 1);
        due.is("walks(1, 1) again", 1, x.walks(1, 1));
        due.is("walks(0, 0)", 0, x.walks(0, 0));
        due.is("count(3)", 2, x.count(3));
        due.is("count(7)", 3, x.count(7));
    }

    @Says("One has WALKED")
    static void p09AllSix(Due due) {
        MileRoad x = Roads.told(Roads.FIVE_WALKERS + ";back 9");
        int bits = 0;
        for (int walker = 5; walker >= 0; walker--) {
            due.is("walks(" + walker + ", 1)", 0, x.walks(walker, 1));
            bits |= 1 << walker;
            due.is("count(3)", bits, x.count(3));
        }
    }

    @Says("UNKNOWN")
    static void p09UnknownBelow0(Due due) {
        for (int walker : new int[] {-1, -32, Integer.MIN_VALUE}) {
            due.refused(MileRoad.UNKNOWN, Roads::some, "walks(" + walker + ", 1)", x -> x.walks(walker, 1));
        }
    }

    @Says("UNKNOWN")
    static void p09UnknownAboveTheLast(Due due) {
        for (int walker : new int[] {4, 5, 6, 33, Integer.MAX_VALUE}) {
            due.refused(MileRoad.UNKNOWN, Roads::some, "walks(" + walker + ", 1)", x -> x.walks(walker, 1));
        }
        due.refused(MileRoad.UNKNOWN, Roads::full, "walks(6, 1)", x -> x.walks(6, 1));
        due.refused(MileRoad.UNKNOWN, MileRoad::new, "walks(0, 1)", x -> x.walks(0, 1));
    }

    @Says("OUTSIDE")
    static void p09OutsideBelow0(Due due) {
        for (int on : new int[] {-1, Integer.MIN_VALUE}) {
            due.refused(MileRoad.OUTSIDE, Roads::some, "walks(0, " + on + ")", x -> x.walks(0, on));
        }
    }

    @Says("OUTSIDE")
    static void p09OutsideAbove1(Due due) {
        for (int on : new int[] {2, 3, Integer.MAX_VALUE}) {
            due.refused(MileRoad.OUTSIDE, Roads::some, "walks(1, " + on + ")", x -> x.walks(1, on));
        }
    }

    @Says({"UNKNOWN; OUTSIDE", "the first of these that fits"})
    static void p09UnknownAndOutside(Due due) {
        due.refused(MileRoad.UNKNOWN, Roads::some, "walks(-1, -1)", x -> x.walks(-1, -1));
        due.refused(MileRoad.UNKNOWN, Roads::full, "walks(6, 2)", x -> x.walks(6, 2));
    }

    // ---- flatten

    @Says({"A STEP is HARD by h (1 .. 9)", "how it was"})
    static void p10HardBy1And9(Due due) {
        MileRoad x = Roads.told(TWO);
        due.is("flatten(4, 9)", 3, x.flatten(4, 9));
        due.is("step(4)", 9, x.step(4));
        due.is("flatten(4, 1)", 9, x.flatten(4, 1));
        due.is("step(4)", 1, x.step(4));
        due.is("flatten(4, 1) again", 1, x.flatten(4, 1));
        due.is("step(4)", 1, x.step(4));
    }

    @Says("A STEP is HARD by h")
    static void p10FirstAndLastStep(Due due) {
        MileRoad x = Roads.told(TWO);
        due.is("flatten(1, 7)", 3, x.flatten(1, 7));
        due.is("flatten(8, 5)", 3, x.flatten(8, 5));
        int[] hard = {7, 3, 3, 3, 3, 3, 3, 5};
        for (int step = 1; step <= 8; step++) {
            due.is("step(" + step + ")", hard[step - 1], x.step(step));
        }
        due.is("flatten(20, 9) of 20", 8, Roads.full().flatten(20, 9));
    }

    @Says("OUTSIDE")
    static void p10OutsideBelowStep1(Due due) {
        for (int step : new int[] {0, -1, Integer.MIN_VALUE}) {
            due.refused(MileRoad.OUTSIDE, Roads::some, "flatten(" + step + ", 5)", x -> x.flatten(step, 5));
        }
    }

    @Says("OUTSIDE")
    static void p10OutsideAboveStepN(Due due) {
        for (int step : new int[] {7, 8, 20, Integer.MAX_VALUE}) {
            due.refused(MileRoad.OUTSIDE, Roads::some, "flatten(" + step + ", 5)", x -> x.flatten(step, 5));
        }
        due.refused(MileRoad.OUTSIDE, Roads::full, "flatten(21, 5)", x -> x.flatten(21, 5));
    }

    @Says("OUTSIDE")
    static void p10OutsideBelowHard1(Due due) {
        for (int h : new int[] {0, -1, Integer.MIN_VALUE}) {
            due.refused(MileRoad.OUTSIDE, Roads::some, "flatten(1, " + h + ")", x -> x.flatten(1, h));
        }
    }

    @Says("OUTSIDE")
    static void p10OutsideAboveHard9(Due due) {
        for (int h : new int[] {10, 99, Integer.MAX_VALUE}) {
            due.refused(MileRoad.OUTSIDE, Roads::some, "flatten(6, " + h + ")", x -> x.flatten(6, h));
        }
    }

    @Says("OUTSIDE")
    static void p10OutsideTwice(Due due) {
        due.refused(MileRoad.OUTSIDE, Roads::some, "flatten(0, 0)", x -> x.flatten(0, 0));
        due.refused(MileRoad.OUTSIDE, Roads::some, "flatten(7, 10)", x -> x.flatten(7, 10));
    }

    // ---- mile

    @Says({"A MILE is m (1 .. 40)", "what it was"})
    static void p11LeastAndGreatest(Due due) {
        MileRoad x = Roads.told(TWO);
        due.is("mile(40)", 6, x.mile(40));
        due.is("count(2)", 40, x.count(2));
        due.is("mile(1)", 40, x.mile(1));
        due.is("count(2)", 1, x.count(2));
        due.is("mile(1) again", 1, x.mile(1));
    }

    @Says({"A MILE is m", "that is felt"})
    static void p11MovesTheStones(Due due) {
        MileRoad x = Roads.walked(TWO, 0);
        x.mile(1);
        due.is("stone(0, 8)", 3, x.stone(0, 8));
        due.is("law(8, 0)", 3, x.law(8, 0));
        x.mile(24);
        due.is("stone(0, 1)", 8, x.stone(0, 1));
        x.mile(25);
        due.is("stone(0, 1)", MileRoad.NONE, x.stone(0, 1));
    }

    @Says("OUTSIDE")
    static void p11OutsideBelow1(Due due) {
        for (int m : new int[] {0, -1, Integer.MIN_VALUE}) {
            due.refused(MileRoad.OUTSIDE, Roads::some, "mile(" + m + ")", x -> x.mile(m));
        }
    }

    @Says("OUTSIDE")
    static void p11OutsideAbove40(Due due) {
        for (int m : new int[] {41, 99, Integer.MAX_VALUE}) {
            due.refused(MileRoad.OUTSIDE, Roads::some, "mile(" + m + ")", x -> x.mile(m));
        }
        due.refused(MileRoad.OUTSIDE, Roads::full, "mile(41)", x -> x.mile(41));
    }

    // ---- undo

    @Says("The latest walks(), flatten(), mile() is undone")
    static void p12Walks(Due due) {
        MileRoad x = Roads.told(TWO);
        x.walks(1, 1);
        x.walks(0, 1);
        x.walks(1, 0);
        due.is("undo() of walks(1, 0)", 2, x.undo());
        due.is("count(3)", 3, x.count(3));
        due.is("undo() of walks(0, 1)", 1, x.undo());
        due.is("count(3)", 2, x.count(3));
        due.is("undo() of walks(1, 1)", 0, x.undo());
        due.is("count(3)", 0, x.count(3));
    }

    @Says("The latest walks(), flatten(), mile() is undone")
    static void p12Flatten(Due due) {
        MileRoad x = Roads.told(TWO);
        x.flatten(8, 9);
        x.flatten(8, 1);
        x.flatten(1, 5);
        x.undo();
        due.is("step(1)", 3, x.step(1));
        due.is("step(8)", 1, x.step(8));
        x.undo();
        due.is("step(8)", 9, x.step(8));
        x.undo();
        due.is("step(8)", 3, x.step(8));
    }

    @Says("The latest walks(), flatten(), mile() is undone")
    static void p12Mile(Due due) {
        MileRoad x = Roads.told(TWO);
        x.mile(40);
        x.mile(1);
        due.is("undo() of mile(1)", 1, x.undo());
        due.is("count(2)", 40, x.count(2));
        due.is("undo() of mile(40)", 0, x.undo());
        due.is("count(2)", 6, x.count(2));
    }

    @Says("The latest walks(), flatten(), mile() is undone")
    static void p12OneByOne(Due due) {
        MileRoad x = Roads.told(TWO);
        x.flatten(2, 7);
        x.mile(9);
        x.walks(1, 1);
        x.undo();
        due.is("count(3), undone", 0, x.count(3));
        due.is("count(2), not yet", 9, x.count(2));
        x.undo();
        due.is("count(2), undone", 6, x.count(2));
        due.is("step(2), not yet", 7, x.step(2));
        x.undo();
        due.is("step(2), undone", 3, x.step(2));
    }

    @Says("(also one by which nothing became other")
    static void p12WhatChangedNothing(Due due) {
        MileRoad x = Roads.walked(TWO, 1);
        x.walks(1, 1);
        x.walks(0, 0);
        x.flatten(2, 3);
        x.mile(6);
        due.is("count(7)", 5, x.count(7));
        for (int left = 4; left >= 1; left--) {
            due.is("undo() to " + left, left, x.undo());
            due.is("count(3)", 2, x.count(3));
        }
        due.is("undo() of walks(1, 1)", 0, x.undo());
        due.is("count(3)", 0, x.count(3));
    }

    @Says({"the last 8 can be)", "how many can be undone yet"})
    static void p12Eight(Due due) {
        MileRoad x = Roads.told(TWO);
        for (int m = 11; m <= 18; m++) {
            due.is("count(7)", m - 11, x.count(7));
            x.mile(m);
        }
        due.is("count(7) of eight", 8, x.count(7));
        for (int left = 7; left >= 1; left--) {
            due.is("undo() to " + left, left, x.undo());
            due.is("count(2) at " + left, 10 + left, x.count(2));
        }
        due.is("undo() to 0", 0, x.undo());
        due.is("count(2) at 0", 6, x.count(2));
    }

    @Says("the last 8 can be)")
    static void p12Nine(Due due) {
        MileRoad x = Roads.told(TWO);
        x.walks(0, 1);
        for (int m = 11; m <= 18; m++) {
            x.mile(m);
        }
        due.is("count(7) of nine", 8, x.count(7));
        for (int left = 7; left >= 0; left--) {
            due.is("undo() to " + left, left, x.undo());
        }
        due.is("undo() of a ninth", MileRoad.NOT, x.undo());
        due.is("count(2), undone", 6, x.count(2));
        due.is("count(3), not undone", 1, x.count(3));
    }

    @Says("the last 8 can be)")
    static void p12TheLastOfMany(Due due) {
        MileRoad x = Roads.told(TWO);
        for (int i = 1; i <= 40; i++) {
            x.flatten(1 + i % 8, 1 + i % 9);
            x.mile(i);
            x.walks(i % 2, 1);
        }
        for (int left = 7; left >= 0; left--) {
            due.is("undo() to " + left, left, x.undo());
        }
        // The last eight are those of 39 and 40, and mile(38) and walks(0, 1).
        due.is("count(2)", 37, x.count(2));
        due.is("step(7), of 38", 3, x.step(7));
        due.is("step(8), of 31 again", 5, x.step(8));
        due.is("step(1), of 32 again", 6, x.step(1));
        due.is("count(3)", 3, x.count(3));
    }

    @Says("the last 8 can be)")
    static void p12EightAgainBehindUndo(Due due) {
        MileRoad x = Roads.told(TWO);
        for (int m = 11; m <= 20; m++) {
            x.mile(m);
        }
        due.is("undo()", 7, x.undo());
        due.is("undo()", 6, x.undo());
        x.walks(1, 1);
        x.walks(0, 1);
        x.flatten(1, 9);
        due.is("count(7)", 8, x.count(7));
        for (int left = 7; left >= 0; left--) {
            due.is("undo() to " + left, left, x.undo());
        }
        due.is("count(2), of mile(13)", 13, x.count(2));
        due.is("count(3)", 0, x.count(3));
        due.is("step(1)", 3, x.step(1));
    }

    @Says("The latest walks(), flatten(), mile() is undone")
    static void p12NothingElseIsUndone(Due due) {
        MileRoad x = Roads.some();
        x.write('a');
        x.seen(0, 1, 1);
        x.forget();
        x.seen(0, 1, 1);
        x.keep(1);
        due.is("count(7)", 5, x.count(7));
        due.is("undo() of mile(6)", 4, x.undo());
        due.is("count(2)", 5, x.count(2));
        due.is("count(6)", 1, x.count(6));
        due.is("count(8)", 14, x.count(8));
    }

    @Says("NOT: none")
    static void p12NotOfNone(Due due) {
        due.refused(MileRoad.NOT, MileRoad::new, "undo() of nothing", MileRoad::undo);
        due.refused(MileRoad.NOT, () -> Roads.told(TWO), "undo() behind a text", MileRoad::undo);
        due.refused(MileRoad.NOT, DoneTest::someAllUndone, "undo() behind all", MileRoad::undo);
    }

    private static MileRoad someAllUndone() {
        MileRoad x = Roads.some();
        for (int i = 0; i < 5; i++) {
            x.undo();
        }
        return x;
    }

    // ---- keep

    @Says("how many have WALKED")
    static void p13HowManyHaveWalked(Due due) {
        MileRoad x = Roads.told(Roads.FIVE_WALKERS + ";back 9");
        due.is("keep(0) of nobody", 0, x.keep(0));
        for (int walker = 5; walker >= 0; walker--) {
            x.walks(walker, 1);
            due.is("keep(0)", 6 - walker, x.keep(0));
        }
        due.is("keep(1) of all six", 6, x.keep(1));
        due.is("keep(1) of a new object", 0, new MileRoad().keep(1));
    }

    @Says({"All as it is", "is kept (k 0, 1)"})
    static void p13TwoAreKept(Due due) {
        for (int k = 0; k <= 1; k++) {
            MileRoad x = Roads.walked(TWO, 0);
            x.keep(k);
            x.mile(30);
            x.keep(1 - k);
            x.mile(31);
            x.back(k);
            due.is("count(2) of " + k, 6, x.count(2));
            x.back(1 - k);
            due.is("count(2) of the other", 30, x.count(2));
        }
    }

    @Says("is kept")
    static void p13KeptAnew(Due due) {
        MileRoad x = Roads.walked(TWO, 0);
        x.flatten(1, 9);
        x.keep(0);
        x.walks(0, 0);
        x.flatten(1, 2);
        x.mile(8);
        due.is("keep(0) over the first", 0, x.keep(0));
        x.mile(9);
        due.is("back(0)", 0, x.back(0));
        due.is("step(1)", 2, x.step(1));
        due.is("count(2)", 8, x.count(2));
    }

    @Says("(but THE TEXT, SEEN, what can be undone)")
    static void p13ChangesNothingThatStands(Due due) {
        MileRoad x = Roads.some();
        due.is("keep(0)", 2, x.keep(0));
        due.is("count(8)", 13, x.count(8));
        due.is("count(6)", 2, x.count(6));
        due.is("count(7)", 5, x.count(7));
        due.is("undo()", 4, x.undo());
        due.is("count(2)", 5, x.count(2));
        due.changesNothing(DoneTest::keptTwice, "keep(1) again", y -> y.keep(1));
    }

    private static MileRoad keptTwice() {
        MileRoad x = Roads.some();
        x.keep(1);
        return x;
    }

    @Says("UNKNOWN: no such k")
    static void p13UnknownBelow0(Due due) {
        for (int k : new int[] {-1, -32, Integer.MIN_VALUE}) {
            due.refused(MileRoad.UNKNOWN, Roads::some, "keep(" + k + ")", x -> x.keep(k));
        }
    }

    @Says("UNKNOWN: no such k")
    static void p13UnknownAbove1(Due due) {
        for (int k : new int[] {2, 32, 33, Integer.MAX_VALUE}) {
            due.refused(MileRoad.UNKNOWN, Roads::some, "keep(" + k + ")", x -> x.keep(k));
        }
        due.refused(MileRoad.UNKNOWN, MileRoad::new, "keep(2)", x -> x.keep(2));
    }

    // ---- back

    @Says("It is as it was kept")
    static void p14AsItWasKept(Due due) {
        MileRoad x = Roads.walked(TWO, 1);
        x.flatten(1, 9);
        x.flatten(8, 1);
        x.mile(30);
        x.keep(0);
        x.walks(0, 1);
        x.walks(1, 0);
        for (int step = 1; step <= 8; step++) {
            x.flatten(step, 5);
        }
        x.mile(31);
        due.is("back(0)", 1, x.back(0));
        int[] hard = {9, 3, 3, 3, 3, 3, 3, 1};
        for (int step = 1; step <= 8; step++) {
            due.is("step(" + step + ")", hard[step - 1], x.step(step));
        }
        due.is("count(2)", 30, x.count(2));
        due.is("count(3)", 2, x.count(3));
    }

    @Says("how many have WALKED")
    static void p14HowManyHaveWalked(Due due) {
        MileRoad x = Roads.told(Roads.FIVE_WALKERS + ";back 9");
        x.keep(0);
        for (int walker = 0; walker < 6; walker++) {
            x.walks(walker, 1);
        }
        x.keep(1);
        x.walks(2, 0);
        due.is("back(0) of nobody", 0, x.back(0));
        due.is("back(1) of all six", 6, x.back(1));
        due.is("count(3)", 63, x.count(3));
    }

    @Says("nothing can be undone")
    static void p14NothingCanBeUndone(Due due) {
        MileRoad x = Roads.full();
        due.is("count(7)", 8, x.count(7));
        x.back(1);
        due.is("count(7) behind back(1)", 0, x.count(7));
        due.is("undo()", MileRoad.NOT, x.undo());
        x.mile(3);
        due.is("undo() of one", 0, x.undo());
        due.is("count(2)", 40, x.count(2));
    }

    @Says("It is as it was kept")
    static void p14MoreThanOnce(Due due) {
        MileRoad x = Roads.walked(TWO, 1);
        x.keep(1);
        for (int i = 0; i < 3; i++) {
            x.mile(20 + i);
            x.walks(1, 0);
            due.is("back(1)", 1, x.back(1));
            due.is("count(2)", 6, x.count(2));
        }
    }

    @Says("It is as it was kept")
    static void p14TextAndSeenStay(Due due) {
        MileRoad x = Roads.some();
        x.seen(0, 2, 2);
        x.back(0);
        due.is("count(6)", 3, x.count(6));
        due.is("count(8)", 13, x.count(8));
        due.is("road() of what was written", 2, x.road());
        due.is("count(2)", 2, x.count(2));
        MileRoad y = Roads.some();
        y.keep(1);
        y.forget();
        y.erase();
        y.back(1);
        due.is("count(6), forgotten", 0, y.count(6));
        due.is("count(8), erased", 0, y.count(8));
    }

    @Says("UNKNOWN")
    static void p14UnknownBelow0(Due due) {
        for (int k : new int[] {-1, -32, Integer.MIN_VALUE}) {
            due.refused(MileRoad.UNKNOWN, Roads::full, "back(" + k + ")", x -> x.back(k));
        }
    }

    @Says("UNKNOWN")
    static void p14UnknownAbove1(Due due) {
        for (int k : new int[] {2, 32, 33, Integer.MAX_VALUE}) {
            due.refused(MileRoad.UNKNOWN, Roads::full, "back(" + k + ")", x -> x.back(k));
        }
    }

    @Says("NOT: nothing was kept since the last text")
    static void p14NotKept(Due due) {
        due.refused(MileRoad.NOT, MileRoad::new, "back(0)", x -> x.back(0));
        due.refused(MileRoad.NOT, MileRoad::new, "back(1)", x -> x.back(1));
        due.refused(MileRoad.NOT, Roads::some, "back(1), where 0 is kept", x -> x.back(1));
        due.refused(MileRoad.NOT, DoneTest::someWithSecondKept, "back(0), where 1 is kept", x -> x.back(0));
    }

    private static MileRoad someWithSecondKept() {
        MileRoad x = Roads.walked(Roads.FOUR, 0, 3);
        x.mile(6);
        x.keep(1);
        x.flatten(3, 7);
        return x;
    }

    @Says("NOT: nothing was kept since the last text")
    static void p14NotKeptSinceTheLastText(Due due) {
        due.refused(MileRoad.NOT, DoneTest::keptAheadOfAText, "back(0)", x -> x.back(0));
        MileRoad x = keptAheadOfAText();
        x.keep(0);
        due.is("back(0), kept since", 1, x.back(0));
    }

    private static MileRoad keptAheadOfAText() {
        MileRoad x = Roads.some();
        x.road();
        x.walks(1, 1);
        return x;
    }

    @Says("since the last text")
    static void p14KeptBehindARefusedText(Due due) {
        MileRoad x = Roads.some();
        x.write('7');
        due.is("road() with a fault", MileRoad.NOT, x.road());
        due.is("back(0)", 1, x.back(0));
        due.is("count(2)", 5, x.count(2));
    }

    @Says({"UNKNOWN; NOT", "the first of these that fits"})
    static void p14UnknownAndNot(Due due) {
        for (int k : new int[] {-1, 2}) {
            due.refused(MileRoad.UNKNOWN, MileRoad::new, "back(" + k + ")", x -> x.back(k));
            due.refused(MileRoad.UNKNOWN, DoneTest::keptAheadOfAText, "back(" + k + ")", x -> x.back(k));
        }
    }
}
