/** Promises 15 to 18: stone, law, crossed, books. */
public final class StonesTest {
    private static final Due DUE = new Due();
    private static final String FOUR = "road 6; hill 1 1 9; hill 2 2 1; hill 6 6 4; mile 5;"
        + " steady 2; old 2; drunk 2; back 2";

    public static void main(String[] args) {
        whereEachFelt();
        stonesAtBothEnds();
        refusedStones();
        theMean();
        refusedLaw();
        crossing();
        books();
        DUE.end("StonesTest");
    }

    private static void whereEachFelt() {
        MileRoad x = Due.told(FOUR);
        int no = MileRoad.NONE;
        // felt by then: steady 9 10 13 16 19 23, old 9 10 14 18 23 29, drunk 9 11 14 20 23 31, back 6 11 16 21 24 35
        int[][] stones = {
            {1, 2, 4, 6, no, no, no, no},
            {1, 2, 4, 5, 6, no, no, no},
            {1, 2, 4, 4, 6, 6, no, no},
            {5, 4, 3, 2, 0, 0, 0, no},
        };
        for (int walker = 0; walker < 4; walker++) {
            for (int k = 1; k <= 8; k++) {
                DUE.due(15, "stone(" + walker + ", " + k + ")", stones[walker][k - 1], x.stone(walker, k));
            }
        }
        x.flatten(1, 1);
        DUE.due(15, "stone(0, 1) by an easier step", 3, x.stone(0, 1));
        x.mile(4);
        DUE.due(15, "stone(3, 1) by a shorter mile", 5, x.stone(3, 1));
        DUE.due(15, "stone(3, 2) by a shorter mile", 4, x.stone(3, 2));
    }

    private static void stonesAtBothEnds() {
        MileRoad x = Due.told("road 4; hill 1 4 1; mile 4; steady 1; back 1; drunk 1");
        DUE.due(15, "all of it is a mile", 4, x.stone(0, 1));
        DUE.due(15, "no second mile", MileRoad.NONE, x.stone(0, 2));
        DUE.due(15, "back to the beginning", 0, x.stone(1, 2));
        DUE.due(15, "drunk at every step", 2, x.stone(2, 1));
        DUE.due(15, "drunk at the end", 4, x.stone(2, 2));
        x.mile(5);
        DUE.due(15, "it never comes to a mile", MileRoad.NONE, x.stone(0, 1));
    }

    private static void refusedStones() {
        MileRoad x = Due.told(FOUR);
        DUE.due(15, "stone(4, 1)", MileRoad.UNKNOWN, x.stone(4, 1));
        DUE.due(15, "stone(-1, 0)", MileRoad.UNKNOWN, x.stone(-1, 0));
        for (int k : new int[] {-1, 0, 9, Integer.MAX_VALUE, Integer.MIN_VALUE}) {
            DUE.due(15, "stone(0, " + k + ")", MileRoad.OUTSIDE, x.stone(0, k));
        }
    }

    private static void law(MileRoad x, int k, int above, int below) {
        DUE.due(16, "law(" + k + ", 0)", above, x.law(k, 0));
        DUE.due(16, "law(" + k + ", 1)", below, x.law(k, 1));
    }

    private static void theMean() {
        MileRoad x = Due.told(FOUR);
        for (int k = 1; k <= 8; k++) {
            law(x, k, MileRoad.NONE, MileRoad.NONE);
        }
        x.walks(0, 1);
        law(x, 4, 6, 1);
        law(x, 5, MileRoad.NONE, MileRoad.NONE);
        x.walks(1, 1);
        law(x, 4, 11, 2);
        law(x, 5, 6, 1);
        x.walks(2, 1);
        law(x, 4, 5, 1);
        x.walks(3, 1);
        law(x, 1, 2, 1);
        law(x, 3, 15, 4);
        law(x, 4, 17, 4);
        law(x, 5, 4, 1);
        law(x, 7, 0, 1);
        law(x, 8, MileRoad.NONE, MileRoad.NONE);
        x.walks(0, 0);
        law(x, 4, 11, 3);
    }

    private static void refusedLaw() {
        MileRoad x = Due.walked(FOUR, 0);
        int[][] wrong = {{0, 0}, {9, 0}, {-1, 1}, {1, 2}, {1, -1}, {Integer.MAX_VALUE, 0}};
        for (int[] w : wrong) {
            DUE.due(16, "law(" + w[0] + ", " + w[1] + ")", MileRoad.OUTSIDE, x.law(w[0], w[1]));
        }
    }

    private static void crossing() {
        DUE.due(17, "crossed() of nobody", MileRoad.NONE, Due.told(FOUR).crossed());
        DUE.due(17, "crossed() of one who is steady", MileRoad.NONE, Due.walked(FOUR, 0).crossed());
        DUE.due(17, "crossed() at one place", 3, Due.walked(FOUR, 2).crossed());
        DUE.due(17, "crossed() of one who goes back", 1, Due.walked(FOUR, 3).crossed());
        // The law: 3, 3, 7/2, 4, 3, 0, 0, none.
        DUE.due(17, "crossed() by equal means", 1, Due.walked(FOUR, 0, 3).crossed());
        DUE.due(17, "crossed() of three", 5, Due.walked(FOUR, 0, 1, 2).crossed());
        DUE.due(17, "crossed() with no second stone", MileRoad.NONE,
            Due.walked("road 4; mile 12; steady 1", 0).crossed());
        // Only the seventh and the eighth stand at one place.
        DUE.due(17, "crossed() at the last ones", 7,
            Due.walked("road 8; hill 1 7 1; hill 8 8 2; mile 1; drunk 7", 0).crossed());
        // A ninth would stand with the eighth, but there is none.
        DUE.due(17, "crossed() behind the last ones", MileRoad.NONE,
            Due.walked("road 8; hill 1 8 1; mile 1; drunk 8", 0).crossed());
    }

    private static void books(MileRoad x, int a, int b, int want) {
        DUE.due(18, "books(" + a + ", " + b + ")", want, x.books(a, b));
        DUE.due(18, "books(" + b + ", " + a + ")", want, x.books(b, a));
    }

    private static void books() {
        books(Due.told(FOUR), 0, 6, 0);
        // The law: 1, 2, 4, 11/2, 6.
        MileRoad two = Due.walked(FOUR, 0, 1);
        books(two, 0, 6, 5);
        books(two, 0, 1, 1);
        books(two, 1, 2, 1);
        books(two, 1, 4, 2);
        books(two, 4, 5, 0);
        books(two, 5, 6, 2);
        books(two, 3, 3, 0);
        books(two, 4, 4, 0);
        books(Due.walked("road 8; mile 3; steady 1", 0), 0, 8, 8);
        books(Due.walked("road 8; mile 3; steady 1", 0), 7, 8, 1);
        // Those at the beginning itself are beyond no place.
        books(Due.walked(FOUR, 3), 0, 6, 4);
        int[][] wrong = {{-1, 0}, {0, -1}, {7, 0}, {0, 7}, {Integer.MAX_VALUE, 0}, {0, Integer.MIN_VALUE}};
        for (int[] w : wrong) {
            DUE.due(18, "books(" + w[0] + ", " + w[1] + ")", MileRoad.OUTSIDE, two.books(w[0], w[1]));
        }
    }
}
