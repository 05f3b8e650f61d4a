/** Promises 19 and 20: send and turns. */
public final class ForetoldTest {
    private static final Due DUE = new Due();
    // STONE 1 at 1 1 1 5, STONE 4 at 6 5 4 2, STONE 5 at none 6 6 0, STONE 8 none
    private static final String FOUR = "road 6; hill 1 1 9; hill 2 2 1; hill 6 6 4; mile 5;"
        + " steady 2; old 2; drunk 2; back 2";

    public static void main(String[] args) {
        oneIsSent();
        severalAreSent();
        nobodyIsSent();
        refusedSend();
        oneIsSentByTurns();
        sixByTurns();
        oneGameAfterAnother();
        passing();
        nothingIsChanged();
        refusedTurns();
        DUE.end("ForetoldTest");
    }

    private static void send(MileRoad x, int k, int p, int far, int want) {
        DUE.due(19, "send(" + k + ", " + p + ", " + far + ")", want, x.send(k, p, far));
    }

    private static void oneIsSent() {
        MileRoad x = Due.told(FOUR);
        send(x, 4, 4, 0, 4);
        send(x, 4, 5, 0, 2);
        send(x, 4, 6, 0, 1);
        send(x, 4, 2, 0, 8);
        send(x, 4, 1, 0, MileRoad.NONE);
        send(x, 4, 0, 1, 1);
        send(x, 4, 6, 1, 1);
        send(x, 5, 6, 1, 2);
        send(x, 5, 0, 0, 8);
        send(x, 8, 6, 0, MileRoad.NONE);
        send(x, 8, 0, 1, MileRoad.NONE);
        send(Due.walked(FOUR, 0), 4, 4, 0, 8);
        send(Due.walked(FOUR, 0), 4, 3, 0, MileRoad.NONE);
        send(Due.walked(FOUR, 0, 1), 4, 5, 0, 4);
        send(Due.walked(FOUR, 3), 4, 4, 1, 1);
        send(Due.walked(FOUR, 3), 4, 5, 1, MileRoad.NONE);
    }

    private static void severalAreSent() {
        String six = FOUR + "; steady 2; old 2";
        send(Due.walked(six, 3), 1, 3, 0, 1);
        send(Due.walked(six, 3), 1, 2, 0, 7);
        send(Due.walked(six, 3, 0), 1, 2, 0, 6);
        send(Due.walked(six, 3, 1), 1, 2, 0, 5);
        send(Due.walked(six, 3, 0, 1, 2), 1, 1, 0, MileRoad.NONE);
        // Two more who go back are at hand here: one is enough, or both are needed.
        String far = "road 8; mile 3; back 9; back 9; steady 1; steady 1; steady 1; old 1";
        send(Due.walked(far, 2), 1, 4, 1, 1);
        send(Due.walked(far, 2, 3), 1, 4, 1, 3);
        send(Due.walked(far, 2, 3), 1, 3, 1, 1);
        // 3 at 3; 0 and 1 together come to 5, 2 alone does, too.
        send(Due.walked("road 8; mile 9; back 2; back 2; back 6; steady 1", 3), 1, 5, 1, 4);
    }

    private static void nobodyIsSent() {
        send(Due.walked(FOUR, 0), 4, 6, 0, 0);
        send(Due.walked(FOUR, 0), 4, 6, 1, 0);
        send(Due.walked(FOUR, 0, 1, 2, 3), 4, 5, 0, 0);
        send(Due.walked(FOUR, 0, 1, 2, 3), 4, 4, 1, 0);
        send(Due.walked(FOUR, 0, 1, 2, 3), 4, 4, 0, MileRoad.NONE);
        send(Due.walked(FOUR, 0, 1, 2, 3), 4, 5, 1, MileRoad.NONE);
        send(new MileRoad(), 1, 12, 0, MileRoad.NONE);
        send(new MileRoad(), 1, 0, 1, MileRoad.NONE);
    }

    private static void refusedSend() {
        MileRoad x = Due.told(FOUR);
        int[][] wrong = {{0, 1, 0}, {9, 1, 0}, {1, -1, 0}, {1, 7, 0}, {1, 1, 2}, {1, 1, -1},
            {Integer.MIN_VALUE, 1, 1}, {1, Integer.MAX_VALUE, 1}};
        for (int[] w : wrong) {
            send(x, w[0], w[1], w[2], MileRoad.OUTSIDE);
        }
    }

    private static void turns(MileRoad x, int k, int above, int below, int sent) {
        DUE.due(20, "turns(" + k + ", 0)", above, x.turns(k, 0));
        DUE.due(20, "turns(" + k + ", 1)", below, x.turns(k, 1));
        DUE.due(20, "turns(" + k + ", 2)", sent, x.turns(k, 2));
    }

    private static void oneIsSentByTurns() {
        // Sending 3 the other answers with 0, by which all have walked: 17/4, while passing were 9/2.
        turns(Due.walked(FOUR, 1, 2), 4, 17, 4, 3);
        // Whoever is sent, the other sends 3, then one more is sent, and he passes: 7/3.
        turns(Due.told(FOUR), 1, 7, 3, 0);
        turns(Due.walked(FOUR, 1, 2, 3), 4, 11, 3, MileRoad.NONE);
        turns(Due.walked(FOUR, 0, 1, 2), 4, 17, 4, 3);
    }

    private static void sixByTurns() {
        // All six at 2: whoever is sent and whoever passes then, it stands there.
        turns(Due.told("mile 6; steady 1; steady 1; steady 1; steady 1; steady 1; steady 1"), 1, 2, 1, 0);
        // The near one passes, lest he who comes back to 10 is sent.
        MileRoad five = Due.walked("mile 6; steady 1; steady 1; steady 1; steady 1; steady 1; back 1", 0, 1, 2, 3, 4);
        turns(five, 1, 2, 1, MileRoad.NONE);
        MileRoad four = Due.walked("mile 6; steady 1; steady 1; steady 1; steady 1; steady 1; back 1", 0, 1, 2, 3);
        turns(four, 1, 2, 1, MileRoad.NONE);
        MileRoad last = Due.walked("mile 6; steady 1; back 1; back 1; back 1; back 1; back 1", 1, 2, 3, 4, 5);
        turns(last, 1, 26, 3, 0);
    }

    private static void oneGameAfterAnother() {
        MileRoad x = Due.walked(FOUR, 3);
        turns(x, 4, 2, 1, MileRoad.NONE);
        turns(x, 8, 6, 1, 0);
        turns(x, 4, 2, 1, MileRoad.NONE);
        x.walks(3, 0);
        turns(x, 1, 7, 3, 0);
        turns(x, 8, 6, 1, 0);
        x.walks(1, 1);
        x.walks(2, 1);
        turns(x, 4, 17, 4, 3);
    }

    private static void passing() {
        turns(Due.walked(FOUR, 3), 4, 2, 1, MileRoad.NONE);
        turns(Due.told(FOUR), 8, 6, 1, 0);
        turns(Due.walked(FOUR, 0), 8, 6, 1, 1);
        turns(Due.walked(FOUR, 0, 1, 2, 3), 8, 6, 1, MileRoad.NONE);
        turns(Due.walked(FOUR, 0, 1, 2, 3), 4, 17, 4, MileRoad.NONE);
        turns(new MileRoad(), 1, 12, 1, MileRoad.NONE);
        // Both ways the stone stays: sending goes before passing.
        turns(Due.walked("road 9; mile 9; steady 1; steady 2", 0), 1, 3, 1, 1);
    }

    private static void nothingIsChanged() {
        MileRoad x = Due.walked(FOUR, 1);
        x.send(4, 2, 0);
        x.turns(4, 0);
        x.cider(4, 2, 5, 0);
        DUE.due(19, "count(3) behind what was foretold", 2, x.count(3));
        DUE.due(20, "count(7) behind what was foretold", 1, x.count(7));
        DUE.due(20, "law(4, 0) behind what was foretold", 5, x.law(4, 0));
    }

    private static void refusedTurns() {
        MileRoad x = Due.told(FOUR);
        int[][] wrong = {{0, 0}, {9, 0}, {-1, 2}, {1, 3}, {1, -1}, {Integer.MAX_VALUE, 0}};
        for (int[] w : wrong) {
            DUE.due(20, "turns(" + w[0] + ", " + w[1] + ")", MileRoad.OUTSIDE, x.turns(w[0], w[1]));
        }
    }
}
