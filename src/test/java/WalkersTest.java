/** Promises 6 to 8: walker, as, step. */
public final class WalkersTest {
    public static void main(String[] args) throws IllegalAccessException {
        Due.runAll(WalkersTest.class);
    }

    private static void walker(Due due, MileRoad x, int walker, int what, int want) {
        due.is("walker(" + walker + ", " + what + ")", want, x.walker(walker, what));
    }

    private static void as(Due due, MileRoad x, int walker, int kind, int want) {
        due.is("as(" + walker + ", " + kind + ")", want, x.as(walker, kind));
    }

    // ---- walker

    @Says({"KIND (what 0)", "of a KIND, 0 STEADY, 1 OLD, 2 DRUNK, 3 BACK"})
    static void p06Kind(Due due) {
        MileRoad x = Roads.told(Roads.FOUR);
        for (int kind = 0; kind < 4; kind++) {
            walker(due, x, kind, 0, kind);
        }
    }

    @Says({"HABIT (1)", "with a HABIT (1 .. 9)"})
    static void p06Habit(Due due) {
        MileRoad x = Roads.told("steady 1;old 9;drunk 2;back 8;back 1;old 5");
        int[] habits = {1, 9, 2, 8, 1, 5};
        for (int walker = 0; walker < 6; walker++) {
            walker(due, x, walker, 1, habits[walker]);
        }
    }

    @Says("1 he has WALKED, 0 (2)")
    static void p06HeHasWalked(Due due) {
        MileRoad x = Roads.told(Roads.FIVE_WALKERS + ";back 9");
        for (int walker = 0; walker < 6; walker++) {
            walker(due, x, walker, 2, 0);
            x.walks(walker, 1);
            walker(due, x, walker, 2, 1);
            x.walks(walker, 0);
            walker(due, x, walker, 2, 0);
        }
        x.walks(5, 1);
        walker(due, x, 4, 2, 0);
    }

    @Says("how many STONES he has (3; 0 .. 8)")
    static void p06HowManyStones(Due due) {
        MileRoad x = Roads.told(Roads.FOUR);
        int[] stones = {4, 5, 6, 7};
        for (int walker = 0; walker < 4; walker++) {
            walker(due, x, walker, 3, stones[walker]);
        }
    }

    @Says("how many STONES he has (3; 0 .. 8)")
    static void p06NoStones(Due due) {
        MileRoad x = Roads.told("road 8;mile 25;steady 1");
        walker(due, x, 0, 3, 0);
        x.mile(24);
        walker(due, x, 0, 3, 1);
        x.mile(12);
        walker(due, x, 0, 3, 2);
    }

    @Says("how many STONES he has (3; 0 .. 8)")
    static void p06EightStonesAtMost(Due due) {
        MileRoad x = Roads.told("road 9;mile 3;hill 9 9 2;steady 1");
        walker(due, x, 0, 3, 8);
        x.flatten(9, 3);
        walker(due, x, 0, 3, 8);
        x.mile(1);
        walker(due, x, 0, 3, 8);
        x.flatten(9, 1);
        x.flatten(8, 1);
        x.mile(3);
        walker(due, x, 0, 3, 7);
    }

    @Says("what he FELT in all (4)")
    static void p06FeltInAll(Due due) {
        MileRoad x = Roads.told(Roads.FOUR);
        int[] all = {23, 29, 31, 35};
        for (int walker = 0; walker < 4; walker++) {
            walker(due, x, walker, 4, all[walker]);
        }
        x.flatten(6, 9);
        walker(due, x, 0, 4, 28);
        walker(due, x, 2, 4, 41);
    }

    @Says("what he FELT in all (4)")
    static void p06FeltAtItsGreatest(Due due) {
        MileRoad x = Roads.told("road 20;hill 1 20 9;steady 9;old 1;drunk 1;back 9");
        walker(due, x, 0, 4, 180);
        walker(due, x, 1, 4, 370);
        walker(due, x, 2, 4, 360);
        walker(due, x, 3, 4, 360);
    }

    @Says("what he FELT in all (4)")
    static void p06FeltAtItsLeast(Due due) {
        MileRoad x = Roads.told("road 4;hill 1 4 1;steady 9;old 9;drunk 9;back 1");
        walker(due, x, 0, 4, 4);
        walker(due, x, 1, 4, 4);
        walker(due, x, 2, 4, 4);
        walker(due, x, 3, 4, 8);
    }

    @Says({"UNKNOWN", "UNKNOWN (no such WALKER)"})
    static void p06UnknownBelow0(Due due) {
        for (int walker : new int[] {-1, -6, Integer.MIN_VALUE}) {
            due.refused(MileRoad.UNKNOWN, Roads::full, "walker(" + walker + ", 0)", x -> x.walker(walker, 0));
        }
    }

    @Says({"UNKNOWN", "UNKNOWN (no such WALKER)"})
    static void p06UnknownAboveTheLast(Due due) {
        walker(due, Roads.told(Roads.FOUR), 3, 0, 3);
        walker(due, Roads.full(), 5, 0, 3);
        for (int walker : new int[] {4, 5, 6, 32, Integer.MAX_VALUE}) {
            due.refused(MileRoad.UNKNOWN, Roads::some, "walker(" + walker + ", 0)", x -> x.walker(walker, 0));
        }
        due.refused(MileRoad.UNKNOWN, Roads::full, "walker(6, 0)", x -> x.walker(6, 0));
    }

    @Says("UNKNOWN")
    static void p06UnknownOfNobody(Due due) {
        due.refused(MileRoad.UNKNOWN, MileRoad::new, "walker(0, 0)", x -> x.walker(0, 0));
    }

    @Says({"OUTSIDE", "OUTSIDE (another number is not as told)"})
    static void p06OutsideBelow0(Due due) {
        for (int what : new int[] {-1, Integer.MIN_VALUE}) {
            due.refused(MileRoad.OUTSIDE, Roads::some, "walker(0, " + what + ")", x -> x.walker(0, what));
        }
    }

    @Says({"OUTSIDE", "OUTSIDE (another number is not as told)"})
    static void p06OutsideAbove4(Due due) {
        for (int what : new int[] {5, Integer.MAX_VALUE}) {
            due.refused(MileRoad.OUTSIDE, Roads::some, "walker(3, " + what + ")", x -> x.walker(3, what));
        }
    }

    @Says({"UNKNOWN; OUTSIDE.", "the first of these that fits"})
    static void p06UnknownAndOutside(Due due) {
        due.refused(MileRoad.UNKNOWN, Roads::some, "walker(-1, -1)", x -> x.walker(-1, -1));
        due.refused(MileRoad.UNKNOWN, Roads::some, "walker(4, 5)", x -> x.walker(4, 5));
        due.refused(MileRoad.UNKNOWN, MileRoad::new, "walker(0, 5)", x -> x.walker(0, 5));
    }

    @Says("Of a WALKER: KIND (what 0), HABIT (1), 1 he has WALKED, 0 (2), how many STONES he has (3; 0 .. 8)")
    static void p06ChangesNothing(Due due) {
        for (int what = 0; what <= 4; what++) {
            int asked = what;
            due.changesNothing(Roads::some, "walker(3, " + what + ")", x -> x.walker(3, asked));
        }
    }

    // ---- as

    @Says({"A WALKER taken as a KIND (0 .. 4", "WALKER (0)", "KINDS of WALKERS are over one another"})
    static void p07EachAsAWalker(Due due) {
        MileRoad x = Roads.told(Roads.FOUR);
        int[] felt = {4, 6, 8, 11};
        for (int walker = 0; walker < 4; walker++) {
            as(due, x, walker, 0, felt[walker]);
        }
    }

    @Says({"as they are over one another", "STEADY (1) under it"})
    static void p07AsSteady(Due due) {
        MileRoad x = Roads.told(Roads.FOUR);
        as(due, x, 0, 1, 4);
        as(due, x, 1, 1, 6);
        as(due, x, 2, 1, 8);
        as(due, x, 3, 1, MileRoad.NOT);
    }

    @Says("OLD (2) is STEADY")
    static void p07AsOld(Due due) {
        MileRoad x = Roads.told(Roads.FOUR);
        as(due, x, 0, 2, MileRoad.NOT);
        as(due, x, 1, 2, 6);
        as(due, x, 2, 2, MileRoad.NOT);
        as(due, x, 3, 2, MileRoad.NOT);
    }

    @Says("DRUNK (3) is STEADY")
    static void p07AsDrunk(Due due) {
        MileRoad x = Roads.told(Roads.FOUR);
        as(due, x, 0, 3, MileRoad.NOT);
        as(due, x, 1, 3, MileRoad.NOT);
        as(due, x, 2, 3, 8);
        as(due, x, 3, 3, MileRoad.NOT);
    }

    @Says("BACK (4) is a WALKER")
    static void p07AsBack(Due due) {
        MileRoad x = Roads.told(Roads.FOUR);
        as(due, x, 0, 4, MileRoad.NOT);
        as(due, x, 1, 4, MileRoad.NOT);
        as(due, x, 2, 4, MileRoad.NOT);
        as(due, x, 3, 4, 11);
    }

    @Says({"FELT at his g-th step (g 1 ..) a STEP is by a STEADY one as much as it is HARD",
        "what he FELT at his n-th step"})
    static void p07ASteadyOne(Due due) {
        MileRoad x = Roads.told("road 5;hill 1 1 8;hill 4 4 7;steady 1;steady 5;steady 9");
        for (int walker = 0; walker < 3; walker++) {
            as(due, x, walker, 1, 3);
        }
        x.flatten(5, 9);
        as(due, x, 0, 1, 9);
        x.flatten(5, 1);
        as(due, x, 0, 1, 1);
    }

    @Says("by an OLD one as by a STEADY one, and (g less 1) by his HABIT, cut, more")
    static void p07AnOldOne(Due due) {
        MileRoad x = Roads.told("road 7;old 1;old 2;old 3;old 6;old 7;old 9");
        int[] felt = {9, 6, 5, 4, 3, 3};
        for (int walker = 0; walker < 6; walker++) {
            as(due, x, walker, 2, felt[walker]);
        }
    }

    @Says("by a DRUNK one as by a STEADY one, twice that, if g by his HABIT leaves nothing")
    static void p07ADrunkOne(Due due) {
        MileRoad x = Roads.told("road 8;drunk 1;drunk 2;drunk 3;drunk 7;drunk 8;drunk 9");
        int[] felt = {6, 6, 3, 3, 6, 3};
        for (int walker = 0; walker < 6; walker++) {
            as(due, x, walker, 3, felt[walker]);
        }
    }

    @Says({"by one who goes BACK as much as it is HARD and his HABIT together", "one who goes BACK over n .. 1"})
    static void p07OneWhoGoesBack(Due due) {
        MileRoad x = Roads.told("road 5;hill 1 1 8;hill 2 2 6;hill 5 5 9;back 1;back 9");
        as(due, x, 0, 4, 9);
        as(due, x, 1, 4, 17);
    }

    @Says("(n: as long as THE ROAD)")
    static void p07OnTheShortestRoad(Due due) {
        MileRoad x = Roads.told("road 4;hill 1 1 1;hill 4 4 5;steady 1;old 1;drunk 4;back 1");
        int[] felt = {5, 8, 10, 2};
        for (int walker = 0; walker < 4; walker++) {
            as(due, x, walker, 0, felt[walker]);
        }
    }

    @Says("(n: as long as THE ROAD)")
    static void p07AtItsGreatest(Due due) {
        MileRoad x = Roads.told("road 20;hill 1 20 9;steady 9;old 1;drunk 1;back 9");
        int[] felt = {9, 28, 18, 18};
        for (int walker = 0; walker < 4; walker++) {
            as(due, x, walker, 0, felt[walker]);
        }
    }

    @Says("UNKNOWN")
    static void p07Unknown(Due due) {
        as(due, Roads.told(Roads.FIVE_WALKERS + ";back 9"), 5, 4, 12);
        for (int walker : new int[] {-1, 4, 6, Integer.MAX_VALUE, Integer.MIN_VALUE}) {
            due.refused(MileRoad.UNKNOWN, Roads::some, "as(" + walker + ", 0)", x -> x.as(walker, 0));
        }
        due.refused(MileRoad.UNKNOWN, MileRoad::new, "as(0, 0)", x -> x.as(0, 0));
    }

    @Says("OUTSIDE")
    static void p07OutsideBelow0(Due due) {
        for (int kind : new int[] {-1, Integer.MIN_VALUE}) {
            due.refused(MileRoad.OUTSIDE, Roads::some, "as(0, " + kind + ")", x -> x.as(0, kind));
        }
    }

    @Says("OUTSIDE")
    static void p07OutsideAbove4(Due due) {
        for (int kind : new int[] {5, Integer.MAX_VALUE}) {
            due.refused(MileRoad.OUTSIDE, Roads::some, "as(3, " + kind + ")", x -> x.as(3, kind));
        }
    }

    @Says("NOT: he is none such")
    static void p07NotSuch(Due due) {
        due.refused(MileRoad.NOT, Roads::some, "as(0, 2)", x -> x.as(0, 2));
        due.refused(MileRoad.NOT, Roads::some, "as(1, 3)", x -> x.as(1, 3));
        due.refused(MileRoad.NOT, Roads::some, "as(2, 4)", x -> x.as(2, 4));
        due.refused(MileRoad.NOT, Roads::some, "as(3, 1)", x -> x.as(3, 1));
    }

    @Says({"UNKNOWN; OUTSIDE; NOT", "the first of these that fits"})
    static void p07UnknownAndOutside(Due due) {
        due.refused(MileRoad.UNKNOWN, Roads::some, "as(-1, -1)", x -> x.as(-1, -1));
        due.refused(MileRoad.UNKNOWN, Roads::some, "as(4, 5)", x -> x.as(4, 5));
    }

    @Says({"UNKNOWN; OUTSIDE; NOT", "the first of these that fits"})
    static void p07UnknownAndNot(Due due) {
        due.refused(MileRoad.UNKNOWN, Roads::some, "as(4, 4)", x -> x.as(4, 4));
        due.refused(MileRoad.UNKNOWN, Roads::some, "as(-1, 2)", x -> x.as(-1, 2));
    }

    @Says({"UNKNOWN; OUTSIDE; NOT", "the first of these that fits"})
    static void p07OutsideAndNot(Due due) {
        due.refused(MileRoad.OUTSIDE, Roads::some, "as(3, 5)", x -> x.as(3, 5));
        due.refused(MileRoad.OUTSIDE, Roads::some, "as(0, -1)", x -> x.as(0, -1));
    }

    @Says("A WALKER taken as a KIND")
    static void p07ChangesNothing(Due due) {
        due.changesNothing(Roads::some, "as(1, 1)", x -> x.as(1, 1));
        due.changesNothing(Roads::full, "as(5, 4)", x -> x.as(5, 4));
    }

    // ---- step

    @Says("How HARD a STEP is")
    static void p08HowHard(Due due) {
        MileRoad x = Roads.told(Roads.FOUR);
        int[] hard = {9, 1, 3, 3, 3, 4};
        for (int step = 1; step <= 6; step++) {
            due.is("step(" + step + ")", hard[step - 1], x.step(step));
        }
        x.flatten(2, 8);
        due.is("step(2), not flat", 8, x.step(2));
        due.changesNothing(Roads::some, "step(2)", y -> y.step(2));
    }

    @Says({"(1 .. n)", "each HARD by 1 .. 9"})
    static void p08FirstAndLast(Due due) {
        MileRoad shortest = Roads.told("road 4;hill 1 1 1;hill 4 4 9");
        due.is("step(1)", 1, shortest.step(1));
        due.is("step(4)", 9, shortest.step(4));
        MileRoad longest = Roads.told("road 20;hill 1 1 9;hill 20 20 1");
        due.is("step(1)", 9, longest.step(1));
        due.is("step(20)", 1, longest.step(20));
    }

    @Says("OUTSIDE (1 .. n)")
    static void p08OutsideBelow1(Due due) {
        for (int step : new int[] {0, -1, Integer.MIN_VALUE}) {
            due.refused(MileRoad.OUTSIDE, Roads::some, "step(" + step + ")", x -> x.step(step));
        }
    }

    @Says("OUTSIDE (1 .. n)")
    static void p08OutsideAboveN(Due due) {
        for (int step : new int[] {7, 12, 20, 21, Integer.MAX_VALUE}) {
            due.refused(MileRoad.OUTSIDE, Roads::some, "step(" + step + ")", x -> x.step(step));
        }
        due.refused(MileRoad.OUTSIDE, Roads::full, "step(21)", x -> x.step(21));
        due.is("step(5) of 4", MileRoad.OUTSIDE, Roads.told("road 4").step(5));
    }
}
