/** Promises 21 to 26: seen, forget, what, miles, cider, count. */
public final class SeenTest {
    private static final Due DUE = new Due();
    // All have the habit 2, so each one's stones are those that another would have by his kind.
    private static final String FOUR = "road 6; hill 1 1 9; hill 2 2 1; hill 6 6 4; mile 5;"
        + " steady 2; old 2; drunk 2; back 2";

    public static void main(String[] args) {
        seeing();
        whatHeIs();
        whatAMileWas();
        ciderByChance();
        refusedCider();
        counting();
        DUE.end("SeenTest");
    }

    private static void seeing() {
        MileRoad x = Due.told(FOUR);
        DUE.due(22, "forget() of nothing", 0, x.forget());
        DUE.due(21, "seen(4, 1, 1)", MileRoad.UNKNOWN, x.seen(4, 1, 1));
        DUE.due(21, "seen(-1, 0, 1)", MileRoad.UNKNOWN, x.seen(-1, 0, 1));
        int[][] wrong = {{0, 1}, {9, 1}, {1, -1}, {1, 7}, {Integer.MAX_VALUE, 0}, {1, Integer.MIN_VALUE}};
        for (int[] w : wrong) {
            DUE.due(21, "seen(0, " + w[0] + ", " + w[1] + ")", MileRoad.OUTSIDE, x.seen(0, w[0], w[1]));
        }
        for (int i = 1; i <= 6; i++) {
            DUE.due(21, "seen(0, 8, 6), " + i, i, x.seen(0, 8, 6));
        }
        DUE.due(21, "seen(3, 1, 0), a seventh", MileRoad.FULL, x.seen(3, 1, 0));
        DUE.due(21, "seen(3, 9, 0), a seventh", MileRoad.OUTSIDE, x.seen(3, 9, 0));
        DUE.due(21, "seen(9, 9, 0), a seventh", MileRoad.UNKNOWN, x.seen(9, 9, 0));
        DUE.due(26, "count(6)", 6, x.count(6));
        DUE.due(22, "forget()", 6, x.forget());
        DUE.due(22, "forget() again", 0, x.forget());
        DUE.due(21, "seen(3, 1, 0) behind it", 1, x.seen(3, 1, 0));
    }

    private static void whatOf(int k, int p, int want) {
        MileRoad x = Due.told(FOUR);
        for (int walker = 0; walker < 4; walker++) {
            x.seen(walker, k, p);
            DUE.due(23, "what(" + walker + ") with stone " + k + " at " + p, want, x.what(walker));
        }
    }

    private static void whatHeIs() {
        whatOf(1, 1, 7);
        whatOf(4, 6, 1);
        whatOf(4, 5, 2);
        whatOf(4, 4, 4);
        whatOf(4, 2, 8);
        whatOf(5, 6, 6);
        whatOf(4, 3, 0);
        whatOf(7, 0, 8);
        whatOf(8, 6, 0);
        MileRoad x = Due.told(FOUR);
        x.seen(1, 1, 1);
        DUE.due(23, "what(0), of whom nothing is seen", 15, x.what(0));
        DUE.due(23, "what(1)", 7, x.what(1));
        x.seen(1, 5, 6);
        DUE.due(23, "what(1) by two", 6, x.what(1));
        x.seen(1, 4, 4);
        DUE.due(23, "what(1) by three", 4, x.what(1));
        x.seen(1, 4, 5);
        DUE.due(23, "what(1) by four", 0, x.what(1));
        x.forget();
        DUE.due(23, "what(1), forgotten", 15, x.what(1));
        x.seen(2, 1, 3);
        x.flatten(1, 1);
        DUE.due(23, "what(2) by an easier step", 7, x.what(2));
        x.mile(40);
        DUE.due(23, "what(2) by a longer mile", 0, x.what(2));
        DUE.due(23, "what(4)", MileRoad.UNKNOWN, x.what(4));
        DUE.due(23, "what(-1)", MileRoad.UNKNOWN, x.what(-1));
    }

    private static void miles(MileRoad x, int number, int least) {
        DUE.due(24, "miles(0)", number, x.miles(0));
        DUE.due(24, "miles(1)", least, x.miles(1));
    }

    private static void whatAMileWas() {
        MileRoad x = Due.told(FOUR);
        miles(x, 40, 1);
        x.seen(0, 1, 3);
        miles(x, 3, 11);
        x.mile(40);
        miles(x, 3, 11);
        x.seen(3, 2, 1);
        miles(x, 2, 11);
        x.flatten(1, 8);
        miles(x, 2, 11);
        x.flatten(1, 6);
        miles(x, 0, MileRoad.NONE);
        x.undo();
        x.seen(1, 1, 0);
        miles(x, 0, MileRoad.NONE);
        x.forget();
        x.seen(0, 1, 1);
        miles(x, 8, 1);
        MileRoad hard = Due.told("road 20; hill 1 20 9; steady 1");
        hard.seen(0, 1, 5);
        miles(hard, 4, 37);
        for (int what : new int[] {-1, 2, Integer.MAX_VALUE, Integer.MIN_VALUE}) {
            DUE.due(24, "miles(" + what + ")", MileRoad.OUTSIDE, x.miles(what));
        }
    }

    private static void cider(MileRoad x, int k, int p, int q, int above, int below) {
        String call = "cider(" + k + ", " + p + ", " + q + ", ";
        DUE.due(25, call + "0)", above, x.cider(k, p, q, 0));
        DUE.due(25, call + "1)", below, x.cider(k, p, q, 1));
    }

    private static void ciderByChance() {
        MileRoad x = Due.told(FOUR);
        cider(x, 4, 5, 5, 3, 8);
        cider(x, 4, 0, 5, 1, 1);
        cider(x, 4, 5, 0, 1, 1);
        cider(x, 4, 5, 10, 0, 1);
        cider(x, 4, 4, 10, 1, 1);
        cider(x, 8, 6, 10, 1, 1);
        x.walks(3, 1);
        cider(x, 4, 5, 5, 3, 8);
        MileRoad one = Due.told("road 6; mile 5; steady 1");
        cider(one, 1, 3, 1, 9, 10);
        cider(one, 1, 3, 3, 7, 10);
        cider(one, 1, 3, 4, 3, 5);
        cider(one, 1, 2, 3, 1, 1);
        cider(one, 4, 6, 9, 1, 1);
        MileRoad six = Due.told("road 6; mile 5; steady 1; steady 2; steady 3; steady 4; steady 5; steady 6");
        cider(six, 1, 3, 3, 117649, 1000000);
        cider(six, 1, 3, 9, 1, 1000000);
        cider(new MileRoad(), 1, 12, 5, 1, 1);
    }

    private static void refusedCider() {
        MileRoad x = Due.told(FOUR);
        int[][] wrong = {{0, 0, 0, 0}, {9, 0, 0, 0}, {1, -1, 0, 0}, {1, 7, 0, 0}, {1, 0, -1, 0}, {1, 0, 11, 0},
            {1, 0, 0, -1}, {1, 0, 0, 2}, {Integer.MIN_VALUE, 0, 0, 0}, {1, 0, Integer.MAX_VALUE, 0}};
        for (int[] w : wrong) {
            DUE.due(25, "cider(" + w[0] + ", " + w[1] + ", " + w[2] + ", " + w[3] + ")",
                MileRoad.OUTSIDE, x.cider(w[0], w[1], w[2], w[3]));
        }
    }

    private static void counting() {
        MileRoad x = Due.told(FOUR);
        x.walks(3, 1);
        x.walks(1, 1);
        x.mile(6);
        x.flatten(6, 9);
        x.seen(1, 1, 2);
        Due.write(x, "old");
        // Harder at the end: old 9 10 14 18 23 34, back 11 16 21 26 29 40: stones 5 and 6 of sixes.
        int[] want = {6, 4, 6, 10, 28, 6, 1, 4, 3};
        for (int what = 0; what < want.length; what++) {
            DUE.due(26, "count(" + what + ")", want[what], x.count(what));
        }
        for (int what : new int[] {-1, 9, Integer.MAX_VALUE, Integer.MIN_VALUE}) {
            DUE.due(26, "count(" + what + ")", MileRoad.OUTSIDE, x.count(what));
        }
        // Stones at the beginning itself stand, too.
        DUE.due(26, "count(5) of one who goes back", 7, Due.walked(FOUR, 3).count(5));
    }
}
