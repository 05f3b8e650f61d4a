/** Promises 6 to 8: walker, as, step. */
public final class WalkersTest {
    private static final Due DUE = new Due();
    private static final String FOUR = "road 6; hill 1 1 9; hill 2 2 1; hill 6 6 4; mile 5;"
        + " steady 2; old 2; drunk 2; back 2";

    public static void main(String[] args) {
        whatAWalkerIs();
        howManyStones();
        takenAsKinds();
        refusedWalkers();
        steps();
        DUE.end("WalkersTest");
    }

    private static void whatAWalkerIs() {
        MileRoad x = Due.told(FOUR);
        // hard 9 1 3 3 3 4; by steps felt: steady the same, old +0 0 1 1 2 2, drunk twice at 2 4 6, back +2 each
        int[] all = {23, 29, 31, 35};
        int[] stones = {4, 5, 6, 7};
        for (int walker = 0; walker < 4; walker++) {
            DUE.due(6, "walker(" + walker + ", 0)", walker, x.walker(walker, 0));
            DUE.due(6, "walker(" + walker + ", 1)", 2, x.walker(walker, 1));
            DUE.due(6, "walker(" + walker + ", 2)", 0, x.walker(walker, 2));
            DUE.due(6, "walker(" + walker + ", 3)", stones[walker], x.walker(walker, 3));
            DUE.due(6, "walker(" + walker + ", 4)", all[walker], x.walker(walker, 4));
        }
        x.walks(1, 1);
        DUE.due(6, "walker(1, 2), he has walked", 1, x.walker(1, 2));
        DUE.due(6, "walker(2, 2), he has not", 0, x.walker(2, 2));
        x.walks(1, 0);
        DUE.due(6, "walker(1, 2), he has not again", 0, x.walker(1, 2));
    }

    private static void howManyStones() {
        MileRoad x = Due.told("road 8; mile 3; steady 1");
        DUE.due(6, "eight stones", 8, x.walker(0, 3));
        x.mile(1);
        DUE.due(6, "no more than eight", 8, x.walker(0, 3));
        x.mile(4);
        DUE.due(6, "six of four", 6, x.walker(0, 3));
        x.mile(24);
        DUE.due(6, "just one", 1, x.walker(0, 3));
        x.mile(25);
        DUE.due(6, "none", 0, x.walker(0, 3));
        x.flatten(1, 4);
        DUE.due(6, "one by a harder step", 1, x.walker(0, 3));
        DUE.due(6, "felt by a harder step", 25, x.walker(0, 4));
    }

    private static void takenAsKinds() {
        MileRoad x = Due.told(FOUR);
        int no = MileRoad.NOT;
        int[][] felt = {
            {4, 4, no, no, no},
            {6, 6, 6, no, no},
            {8, 8, no, 8, no},
            {11, no, no, no, 11},
        };
        for (int walker = 0; walker < 4; walker++) {
            for (int kind = 0; kind <= 4; kind++) {
                DUE.due(7, "as(" + walker + ", " + kind + ")", felt[walker][kind], x.as(walker, kind));
            }
        }
        x.flatten(6, 9);
        x.flatten(1, 2);
        DUE.due(7, "as(0, 1) at 9", 9, x.as(0, 1));
        DUE.due(7, "as(3, 0) at 2", 4, x.as(3, 0));
        MileRoad odd = Due.told("road 7; drunk 2; old 9; drunk 7; old 1");
        DUE.due(7, "drunk 2 at 7", 3, odd.as(0, 3));
        DUE.due(7, "old 9 at 7", 3, odd.as(1, 2));
        DUE.due(7, "drunk 7 at 7", 6, odd.as(2, 1));
        DUE.due(7, "old 1 at 7", 9, odd.as(3, 0));
    }

    private static void refusedWalkers() {
        MileRoad x = Due.told(FOUR);
        for (int walker : new int[] {-1, 4, 6, Integer.MAX_VALUE, Integer.MIN_VALUE}) {
            DUE.due(6, "walker(" + walker + ", 0)", MileRoad.UNKNOWN, x.walker(walker, 0));
            DUE.due(6, "walker(" + walker + ", 9)", MileRoad.UNKNOWN, x.walker(walker, 9));
            DUE.due(7, "as(" + walker + ", 0)", MileRoad.UNKNOWN, x.as(walker, 0));
            DUE.due(7, "as(" + walker + ", 9)", MileRoad.UNKNOWN, x.as(walker, 9));
        }
        for (int other : new int[] {-1, 5, Integer.MAX_VALUE, Integer.MIN_VALUE}) {
            DUE.due(6, "walker(0, " + other + ")", MileRoad.OUTSIDE, x.walker(0, other));
            DUE.due(7, "as(3, " + other + ")", MileRoad.OUTSIDE, x.as(3, other));
        }
    }

    private static void steps() {
        MileRoad x = Due.told(FOUR);
        int[] hard = {9, 1, 3, 3, 3, 4};
        for (int step = 1; step <= 6; step++) {
            DUE.due(8, "step(" + step + ")", hard[step - 1], x.step(step));
        }
        MileRoad longest = Due.told("road 20; hill 20 20 8; steady 1; back 1");
        DUE.due(8, "step(20)", 8, longest.step(20));
        DUE.due(8, "step(19)", 3, longest.step(19));
        DUE.due(8, "step(21)", MileRoad.OUTSIDE, longest.step(21));
        DUE.due(7, "as(0, 0) of 20 steps", 8, longest.as(0, 0));
        DUE.due(6, "walker(1, 4) of 20 steps", 85, longest.walker(1, 4));
        for (int step : new int[] {-1, 0, 7, 21, Integer.MAX_VALUE, Integer.MIN_VALUE}) {
            DUE.due(8, "step(" + step + ")", MileRoad.OUTSIDE, x.step(step));
        }
    }
}
