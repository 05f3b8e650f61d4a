/** Promises 9 to 14: walks, flatten, mile, undo, keep, back. */
public final class DoneTest {
    private static final Due DUE = new Due();
    private static final String TWO = "road 8; mile 6; steady 1; back 2";

    public static void main(String[] args) {
        walking();
        flattening();
        milesMade();
        undoing();
        onlyEightAreUndone();
        refusedIsNotUndone();
        keeping();
        whatIsNotKept();
        DUE.end("DoneTest");
    }

    private static void walking() {
        MileRoad x = Due.told(TWO);
        DUE.due(9, "walks(1, 1)", 0, x.walks(1, 1));
        DUE.due(9, "count(3)", 2, x.count(3));
        DUE.due(9, "walks(1, 1) again", 1, x.walks(1, 1));
        DUE.due(9, "walks(0, 0)", 0, x.walks(0, 0));
        DUE.due(9, "count(3) yet", 2, x.count(3));
        DUE.due(9, "walks(0, 1)", 0, x.walks(0, 1));
        DUE.due(9, "count(3) of both", 3, x.count(3));
        DUE.due(9, "walks(1, 0)", 1, x.walks(1, 0));
        DUE.due(9, "count(3) of one", 1, x.count(3));
        DUE.due(9, "walks(2, 1)", MileRoad.UNKNOWN, x.walks(2, 1));
        DUE.due(9, "walks(-1, 7)", MileRoad.UNKNOWN, x.walks(-1, 7));
        DUE.due(9, "walks(0, 2)", MileRoad.OUTSIDE, x.walks(0, 2));
        DUE.due(9, "walks(0, -1)", MileRoad.OUTSIDE, x.walks(0, -1));
        DUE.due(9, "count(3) of one yet", 1, x.count(3));
    }

    private static void flattening() {
        MileRoad x = Due.told(TWO);
        DUE.due(10, "flatten(1, 9)", 3, x.flatten(1, 9));
        DUE.due(10, "flatten(1, 1)", 9, x.flatten(1, 1));
        DUE.due(10, "step(1)", 1, x.step(1));
        DUE.due(10, "step(2)", 3, x.step(2));
        DUE.due(10, "flatten(8, 5)", 3, x.flatten(8, 5));
        DUE.due(10, "count(4)", 24, x.count(4));
        int[][] wrong = {{0, 1}, {9, 1}, {-1, 1}, {1, 0}, {1, 10}, {1, -1}, {Integer.MAX_VALUE, 1}};
        for (int[] w : wrong) {
            DUE.due(10, "flatten(" + w[0] + ", " + w[1] + ")", MileRoad.OUTSIDE, x.flatten(w[0], w[1]));
        }
        DUE.due(10, "count(4) yet", 24, x.count(4));
    }

    private static void milesMade() {
        MileRoad x = Due.told(TWO);
        DUE.due(11, "mile(40)", 6, x.mile(40));
        DUE.due(11, "mile(1)", 40, x.mile(1));
        DUE.due(11, "mile(0)", MileRoad.OUTSIDE, x.mile(0));
        DUE.due(11, "mile(41)", MileRoad.OUTSIDE, x.mile(41));
        DUE.due(11, "mile(-1)", MileRoad.OUTSIDE, x.mile(-1));
        DUE.due(11, "count(2)", 1, x.count(2));
        DUE.due(11, "stone(0, 8) by a mile of 1", 3, x.stone(0, 8));
    }

    private static void undoing() {
        MileRoad x = Due.told(TWO);
        DUE.due(12, "undo() of nothing", MileRoad.NOT, x.undo());
        x.walks(1, 1);
        x.walks(1, 1);
        x.flatten(2, 7);
        x.flatten(2, 8);
        x.mile(9);
        x.walks(1, 0);
        DUE.due(26, "count(7)", 6, x.count(7));
        DUE.due(12, "undo() of walks(1, 0)", 5, x.undo());
        DUE.due(12, "he has walked again", 2, x.count(3));
        DUE.due(12, "undo() of mile(9)", 4, x.undo());
        DUE.due(12, "the mile again", 6, x.count(2));
        DUE.due(12, "undo() of flatten(2, 8)", 3, x.undo());
        DUE.due(12, "step(2) of 7", 7, x.step(2));
        DUE.due(12, "undo() of flatten(2, 7)", 2, x.undo());
        DUE.due(12, "step(2) of 3", 3, x.step(2));
        DUE.due(12, "undo() of what changed nothing", 1, x.undo());
        DUE.due(12, "he has walked yet", 2, x.count(3));
        DUE.due(12, "undo() of walks(1, 1)", 0, x.undo());
        DUE.due(12, "nobody has walked", 0, x.count(3));
        DUE.due(12, "undo() behind all", MileRoad.NOT, x.undo());
    }

    private static void onlyEightAreUndone() {
        MileRoad x = Due.told(TWO);
        for (int m = 11; m <= 20; m++) {
            x.mile(m);
        }
        DUE.due(12, "count(7) of ten", 8, x.count(7));
        for (int left = 7; left >= 0; left--) {
            DUE.due(12, "undo() to " + left, left, x.undo());
            DUE.due(12, "the mile at " + left, 12 + left, x.count(2));
        }
        DUE.due(12, "undo() of a ninth", MileRoad.NOT, x.undo());
        deedsOfAllSorts();
        DUE.due(12, "the mile yet", 12, x.count(2));
    }

    private static void deedsOfAllSorts() {
        MileRoad x = Due.told(TWO);
        for (int step = 1; step <= 4; step++) {
            x.flatten(step, 9);
            x.walks(step % 2, 1);
            x.mile(10 + step);
        }
        for (int left = 7; left >= 0; left--) {
            DUE.due(12, "undo() of all sorts to " + left, left, x.undo());
        }
        DUE.due(12, "step(1)", 9, x.step(1));
        DUE.due(12, "step(2)", 9, x.step(2));
        DUE.due(12, "step(3)", 3, x.step(3));
        DUE.due(12, "step(4)", 3, x.step(4));
        DUE.due(12, "he has walked", 2, x.count(3));
        DUE.due(12, "the mile of the first", 11, x.count(2));
    }

    private static void refusedIsNotUndone() {
        MileRoad x = Due.told(TWO);
        x.mile(7);
        x.walks(5, 1);
        x.walks(0, 3);
        x.flatten(0, 3);
        x.mile(0);
        x.seen(0, 1, 1);
        x.forget();
        x.keep(0);
        DUE.due(12, "count(7)", 1, x.count(7));
        DUE.due(12, "undo()", 0, x.undo());
        DUE.due(12, "the mile", 6, x.count(2));
    }

    private static void keeping() {
        MileRoad x = Due.told(TWO);
        for (int k : new int[] {-1, 2, Integer.MAX_VALUE}) {
            DUE.due(13, "keep(" + k + ")", MileRoad.UNKNOWN, x.keep(k));
            DUE.due(14, "back(" + k + ")", MileRoad.UNKNOWN, x.back(k));
        }
        x.walks(1, 1);
        x.flatten(3, 9);
        x.mile(30);
        DUE.due(13, "keep(1)", 1, x.keep(1));
        DUE.due(14, "back(0) of nothing kept", MileRoad.NOT, x.back(0));
        DUE.due(14, "refused back(0) leaves what can be undone", 3, x.count(7));
        x.walks(0, 1);
        x.flatten(3, 1);
        x.flatten(4, 2);
        x.mile(31);
        DUE.due(13, "keep(0)", 2, x.keep(0));
        DUE.due(14, "back(1)", 1, x.back(1));
        DUE.due(14, "count(7)", 0, x.count(7));
        DUE.due(14, "undo()", MileRoad.NOT, x.undo());
        DUE.due(14, "count(3) of 1", 2, x.count(3));
        DUE.due(14, "step(3) of 1", 9, x.step(3));
        DUE.due(14, "step(4) of 1", 3, x.step(4));
        DUE.due(14, "count(2) of 1", 30, x.count(2));
        DUE.due(14, "back(0)", 2, x.back(0));
        DUE.due(14, "count(3) of 0", 3, x.count(3));
        DUE.due(14, "step(3) of 0", 1, x.step(3));
        DUE.due(14, "step(4) of 0", 2, x.step(4));
        DUE.due(14, "count(2) of 0", 31, x.count(2));
        x.walks(0, 0);
        DUE.due(14, "back(0) a second time", 2, x.back(0));
        x.walks(0, 0);
        x.walks(1, 0);
        DUE.due(13, "keep(0) over the first", 0, x.keep(0));
        x.walks(0, 1);
        DUE.due(14, "back(0) to the second", 0, x.back(0));
    }

    private static void whatIsNotKept() {
        MileRoad x = Due.told(TWO);
        Due.write(x, "old");
        x.seen(0, 1, 2);
        x.mile(7);
        x.keep(0);
        DUE.due(13, "keep() leaves what can be undone", 1, x.count(7));
        x.write(' ');
        x.seen(0, 2, 4);
        x.back(0);
        DUE.due(14, "letters stay", 4, x.count(8));
        DUE.due(14, "what is seen stays", 2, x.count(6));
        DUE.due(14, "the mile", 7, x.count(2));
    }
}
