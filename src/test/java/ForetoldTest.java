/** Promises 19 and 20: send and turns. */
public final class ForetoldTest {
    private static final int NO = MileRoad.NONE;

    public static void main(String[] args) throws IllegalAccessException {
        Due.runAll(ForetoldTest.class);
    }

    // ---- send

    private static final int NEAR = 0, FAR = 1;

    private static void send(Due due, MileRoad x, int k, int p, int far, int want) {
        due.is("send(" + k + ", " + p + ", " + far + ")", want, x.send(k, p, far));
    }

    @Says({"SEND for STONE k and a place p (0 .. n), near (0)", "not beyond p (near)"})
    static void p19Near(Due due) {
        // Stone 4 at 6 5 4 2.
        MileRoad x = Roads.told(Roads.FOUR);
        send(due, x, 4, 6, NEAR, 1);
        send(due, x, 4, 5, NEAR, 2);
        send(due, x, 4, 4, NEAR, 4);
        send(due, x, 4, 3, NEAR, 8);
        send(due, x, 4, 2, NEAR, 8);
        send(due, x, 4, 1, NEAR, NO);
    }

    @Says({"or far (1)", "not short of p (far)"})
    static void p19Far(Due due) {
        // Stone 1 at 1 1 1 5.
        MileRoad x = Roads.told(Roads.FOUR);
        send(due, x, 1, 0, FAR, 1);
        send(due, x, 1, 1, FAR, 1);
        send(due, x, 1, 2, FAR, 8);
        send(due, x, 1, 5, FAR, 8);
        send(due, x, 1, 6, FAR, NO);
    }

    @Says("not beyond p (near)")
    static void p19NotBeyondByAFraction(Due due) {
        // With 0 and 3 stone 3 is at 7/2, with 0 and 1 stone 4 at 11/2.
        send(due, Roads.walked(Roads.FOUR, 0), 3, 3, NEAR, NO);
        send(due, Roads.walked(Roads.FOUR, 0), 4, 5, NEAR, 4);
        send(due, Roads.walked(Roads.FOUR, 0, 1, 3), 4, 4, NEAR, NO);
    }

    @Says("not short of p (far)")
    static void p19NotShortByAFraction(Due due) {
        // With 0 and 1 stone 4 is at 11/2.
        send(due, Roads.walked(Roads.FOUR, 1), 4, 6, FAR, NO);
        send(due, Roads.walked(Roads.FOUR, 1), 4, 5, FAR, 0);
        send(due, Roads.walked(Roads.FOUR, 2), 4, 5, FAR, 1);
        send(due, Roads.walked(Roads.FOUR, 1, 2), 4, 5, FAR, 1);
    }

    @Says("such that, had these WALKED, too")
    static void p19WithThoseWhoHaveWalked(Due due) {
        send(due, Roads.walked(Roads.FOUR, 0), 4, 4, NEAR, 8);
        send(due, Roads.walked(Roads.FOUR, 0), 4, 3, NEAR, NO);
        send(due, Roads.walked(Roads.FOUR, 3), 4, 4, FAR, 1);
        send(due, Roads.walked(Roads.FOUR, 3), 4, 5, FAR, NO);
    }

    @Says("the fewest")
    static void p19TheFewest(Due due) {
        // At 6 6 7 3: with 3, who has walked, 0 and 1 together come to 5, and 2 alone does.
        MileRoad x = Roads.walked("road 8;mile 9;back 2;back 2;back 6;steady 1", 3);
        send(due, x, 1, 5, FAR, 4);
        send(due, Roads.walked(Roads.FOUR + ";steady 2;old 2", 3), 1, 2, NEAR, 7);
    }

    @Says("(bits; of as few the least)")
    static void p19OfAsFewTheLeast(Due due) {
        String six = Roads.FOUR + ";steady 2;old 2";
        send(due, Roads.told(six), 1, 1, NEAR, 1);
        send(due, Roads.walked(six, 3, 0), 1, 2, NEAR, 6);
        send(due, Roads.walked(six, 3, 1), 1, 2, NEAR, 5);
        send(due, Roads.walked(six, 3, 4), 1, 2, NEAR, 3);
    }

    @Says("of those who have not WALKED")
    static void p19NotThoseWhoHaveWalked(Due due) {
        MileRoad x = Roads.walked(Roads.FOUR, 2);
        send(due, x, 1, 1, NEAR, 0);
        send(due, x, 4, 5, FAR, 1);
        send(due, x, 4, 3, NEAR, 8);
        send(due, Roads.walked(Roads.FOUR, 3, 0), 1, 2, NEAR, 6);
    }

    @Says("the fewest of those who have not WALKED")
    static void p19NobodyIsNeeded(Due due) {
        send(due, Roads.walked(Roads.FOUR, 0), 4, 6, NEAR, 0);
        send(due, Roads.walked(Roads.FOUR, 0), 4, 6, FAR, 0);
        send(due, Roads.walked(Roads.FOUR, 0, 1, 2, 3), 4, 5, NEAR, 0);
        send(due, Roads.walked(Roads.FOUR, 0, 1, 2, 3), 4, 4, FAR, 0);
    }

    @Says({"SEND; NONE.", "(far); none."})
    static void p19NoneIsLeftWhoHelps(Due due) {
        send(due, Roads.walked(Roads.FOUR, 0, 1, 2, 3), 4, 4, NEAR, NO);
        send(due, Roads.walked(Roads.FOUR, 0, 1, 2, 3), 4, 5, FAR, NO);
    }

    @Says("it would stand (there would be one)")
    static void p19ThereWouldBeOne(Due due) {
        MileRoad x = Roads.told(Roads.FOUR);
        send(due, x, 8, 6, NEAR, NO);
        send(due, x, 8, 0, FAR, NO);
        send(due, x, 8, 6, FAR, NO);
        // Stone 5 is of 1, 2 and 3 alone, stone 7 of 3 alone.
        send(due, x, 5, 6, NEAR, 2);
        send(due, x, 7, 0, FAR, 8);
        send(due, Roads.walked(Roads.FOUR, 0), 7, 6, NEAR, 8);
    }

    @Says("it would stand (there would be one)")
    static void p19OfNoWalkers(Due due) {
        send(due, new MileRoad(), 1, 12, NEAR, NO);
        send(due, new MileRoad(), 1, 0, FAR, NO);
    }

    @Says("SEND for STONE k and a place p (0 .. n)")
    static void p19AtBothEnds(Due due) {
        MileRoad x = Roads.told(Roads.FOUR);
        send(due, x, 5, 0, NEAR, 8);
        send(due, x, 5, 6, FAR, 2);
        send(due, x, 1, 0, NEAR, NO);
        send(due, x, 1, 6, FAR, NO);
        send(due, Roads.told("road 20;hill 1 20 2;mile 40;steady 1"), 1, 20, FAR, 1);
    }

    @Says("the fewest of those who have not WALKED (bits")
    static void p19FiveOfSix(Due due) {
        // One at 19 and five at 1 come to 4, with four of these it is 23/5; the other way 16, and 77/5.
        String near = "road 20;mile 3;back 1;steady 1;steady 2;steady 3;steady 4;steady 5";
        send(due, Roads.walked(near, 0), 1, 4, NEAR, 62);
        send(due, Roads.walked(near, 0), 1, 5, NEAR, 30);
        String far = "road 20;mile 3;steady 1;back 1;back 2;back 3;back 4;back 5";
        send(due, Roads.walked(far, 0), 1, 16, FAR, 62);
        send(due, Roads.walked(far, 0), 1, 15, FAR, 30);
        send(due, Roads.walked("mile 6;drunk 1;steady 1;steady 2;steady 3;steady 4;back 1"), 1, 3, FAR, 32);
    }

    @Says("OUTSIDE")
    static void p19OutsideOfTheStones(Due due) {
        send(due, Roads.told("road 8;mile 3;steady 1"), 8, 8, FAR, 1);
        for (int k : new int[] {0, 9, -1, Integer.MAX_VALUE, Integer.MIN_VALUE}) {
            due.refused(MileRoad.OUTSIDE, Roads::some, "send(" + k + ", 3, 0)", x -> x.send(k, 3, NEAR));
        }
    }

    @Says("OUTSIDE")
    static void p19OutsideOfTheRoad(Due due) {
        for (int p : new int[] {-1, 7, 20, Integer.MAX_VALUE, Integer.MIN_VALUE}) {
            due.refused(MileRoad.OUTSIDE, Roads::some, "send(1, " + p + ", 0)", x -> x.send(1, p, NEAR));
            due.refused(MileRoad.OUTSIDE, Roads::some, "send(1, " + p + ", 1)", x -> x.send(1, p, FAR));
        }
        due.refused(MileRoad.OUTSIDE, Roads::full, "send(1, 21, 0)", x -> x.send(1, 21, NEAR));
    }

    @Says("OUTSIDE")
    static void p19OutsideOfNearAndFar(Due due) {
        for (int far : new int[] {-1, 2, Integer.MAX_VALUE, Integer.MIN_VALUE}) {
            due.refused(MileRoad.OUTSIDE, Roads::some, "send(1, 3, " + far + ")", x -> x.send(1, 3, far));
        }
    }

    @Says("OUTSIDE")
    static void p19OutsideTwice(Due due) {
        due.refused(MileRoad.OUTSIDE, Roads::some, "send(0, 7, 0)", x -> x.send(0, 7, 0));
        due.refused(MileRoad.OUTSIDE, Roads::some, "send(9, 3, 2)", x -> x.send(9, 3, 2));
        due.refused(MileRoad.OUTSIDE, Roads::some, "send(1, -1, -1)", x -> x.send(1, -1, -1));
    }

    @Says("FORETOLD (nothing changes)")
    static void p19ChangesNothing(Due due) {
        due.changesNothing(Roads::some, "send(4, 3, 0)", x -> x.send(4, 3, NEAR));
        due.changesNothing(Roads::some, "send(8, 6, 1)", x -> x.send(8, 6, FAR));
        due.changesNothing(Roads::full, "send(1, 20, 1)", x -> x.send(1, 20, FAR));
    }

    // ---- turns

    private static void turns(Due due, MileRoad x, int k, int above, int below, int sent) {
        due.is("turns(" + k + ", 0)", above, x.turns(k, 0));
        due.is("turns(" + k + ", 1)", below, x.turns(k, 1));
        due.is("turns(" + k + ", 2)", sent, x.turns(k, 2));
    }

    @Says("where it stands for nobody counts as n)")
    static void p20OfNoWalkers(Due due) {
        turns(due, new MileRoad(), 1, 12, 1, NO);
        turns(due, Roads.told("road 4"), 8, 4, 1, NO);
        turns(due, Roads.told("road 20"), 1, 20, 1, NO);
    }

    @Says("where it stands for nobody counts as n)")
    static void p20OfAStoneThatNobodyHas(Due due) {
        turns(due, Roads.told(Roads.FOUR), 8, 6, 1, 0);
        turns(due, Roads.walked(Roads.FOUR, 0), 8, 6, 1, 1);
        turns(due, Roads.walked(Roads.FOUR, 0, 1, 2, 3), 8, 6, 1, NO);
        // Only 3 has stone 7, at 0: the first one sends him, and nobody moves it then.
        turns(due, Roads.told(Roads.FOUR), 7, 0, 1, 3);
    }

    @Says("till all have WALKED")
    static void p20AllHaveWalked(Due due) {
        MileRoad x = Roads.walked(Roads.FOUR, 0, 1, 2, 3);
        turns(due, x, 1, 2, 1, NO);
        turns(due, x, 4, 17, 4, NO);
        turns(due, x, 7, 0, 1, NO);
    }

    @Says({"those who have not WALKED are sent", "the first one would have it near"})
    static void p20OneIsLeft(Due due) {
        turns(due, Roads.walked(Roads.FOUR, 0, 1, 2), 4, 17, 4, 3);
        turns(due, Roads.walked("mile 6;steady 1;back 1;back 1;back 1;back 1;back 1", 1, 2, 3, 4, 5), 1, 26, 3, 0);
    }

    @Says({"none, if he passes", "he sends nobody"})
    static void p20HePasses(Due due) {
        turns(due, Roads.walked(Roads.FOUR, 1, 2, 3), 4, 11, 3, NO);
        turns(due, Roads.walked(Roads.FOUR, 3), 4, 2, 1, NO);
        turns(due, Roads.walked("mile 6;steady 1;steady 2;back 1", 0, 1), 1, 2, 1, NO);
    }

    @Says({"by two by turns, one each time (any of them)", "the other one far"})
    static void p20TheOtherSends(Due due) {
        // Sending 3 the other answers with 0, by which all have walked: 17/4, while passing were 9/2.
        turns(due, Roads.walked(Roads.FOUR, 1, 2), 4, 17, 4, 3);
    }

    @Says({"or one passes (he sends nobody; then it is over)", "the other one far"})
    static void p20TheOtherPassesAndItIsOver(Due due) {
        // One at 10 and two at 2: behind the first of them the other one passes, at 6.
        turns(due, Roads.walked("mile 6;back 1;steady 1;steady 2", 0), 1, 6, 1, 1);
        turns(due, Roads.walked("mile 6;steady 1;steady 2;back 1", 2), 1, 6, 1, 0);
    }

    @Says("both playing best")
    static void p20ThreeAndFourAreLeft(Due due) {
        // Whoever is sent, the other sends 3, then one more is sent, and he passes: 7/3.
        turns(due, Roads.told(Roads.FOUR), 1, 7, 3, 0);
        // The first one sends 3, the other one 1, he 2: 6 5 4 2.
        turns(due, Roads.walked(Roads.FOUR, 0), 4, 17, 4, 3);
    }

    @Says("whom the first one sends (of several the least")
    static void p20OfSeveralTheLeast(Due due) {
        turns(due, Roads.walked("mile 6;steady 1;steady 2;steady 3", 0), 1, 2, 1, 1);
        turns(due, Roads.told("mile 6;drunk 1;drunk 1;drunk 1"), 1, 1, 1, 0);
        turns(due, Roads.walked("mile 6;back 1;back 1;steady 1;steady 2", 0, 1), 1, 22, 3, 2);
    }

    @Says("passing behind all)")
    static void p20PassingBehindAll(Due due) {
        turns(due, Roads.walked("road 9;mile 9;steady 1;steady 2", 0), 1, 3, 1, 1);
        turns(due, Roads.walked("road 9;mile 28;steady 1;steady 2", 0), 1, 9, 1, 1);
    }

    @Says("TURNS for STONE k: those who have not WALKED are sent")
    static void p20SixAreLeft(Due due) {
        turns(due, Roads.told("mile 6;steady 1;steady 1;steady 1;steady 1;steady 1;steady 1"), 1, 2, 1, 0);
        MileRoad x = Roads.told("road 20;hill 1 9 9;mile 40;steady 1;old 1;drunk 2;back 1;back 9;old 5");
        turns(due, x, 1, 8, 1, 1);
        turns(due, x, 2, 49, 6, 2);
        turns(due, x, 5, 10, 1, 4);
    }

    @Says("where it stands then (THE LAW")
    static void p20OneGameAfterAnother(Due due) {
        MileRoad x = Roads.walked(Roads.FOUR, 3);
        turns(due, x, 4, 2, 1, NO);
        turns(due, x, 8, 6, 1, 0);
        x.walks(3, 0);
        turns(due, x, 1, 7, 3, 0);
        x.walks(1, 1);
        x.walks(2, 1);
        turns(due, x, 4, 17, 4, 3);
        turns(due, x, 8, 6, 1, 0);
    }

    @Says("TURNS: where it stands, above (what 0), below (1), whom the first one sends (2; NONE).")
    static void p20InLowestTerms(Due due) {
        // 10 and 2 by one who is sent: 12 by 2; 0 by 2.
        turns(due, Roads.walked("mile 6;back 1;steady 1", 0), 1, 6, 1, 1);
        turns(due, Roads.walked("road 4;mile 16;back 1;back 1", 0), 1, 0, 1, 1);
    }

    @Says("OUTSIDE")
    static void p20OutsideOfTheStones(Due due) {
        turns(due, Roads.told("road 8;mile 3;steady 1"), 8, 8, 1, 0);
        for (int k : new int[] {0, 9, -1, Integer.MAX_VALUE, Integer.MIN_VALUE}) {
            due.refused(MileRoad.OUTSIDE, Roads::some, "turns(" + k + ", 0)", x -> x.turns(k, 0));
        }
    }

    @Says("OUTSIDE")
    static void p20OutsideOfWhat(Due due) {
        for (int what : new int[] {-1, 3, Integer.MAX_VALUE, Integer.MIN_VALUE}) {
            due.refused(MileRoad.OUTSIDE, Roads::some, "turns(1, " + what + ")", x -> x.turns(1, what));
        }
    }

    @Says("OUTSIDE")
    static void p20OutsideTwice(Due due) {
        due.refused(MileRoad.OUTSIDE, Roads::some, "turns(0, 3)", x -> x.turns(0, 3));
        due.refused(MileRoad.OUTSIDE, Roads::some, "turns(9, -1)", x -> x.turns(9, -1));
    }

    @Says("FORETOLD (nothing changes)")
    static void p20ChangesNothing(Due due) {
        for (int what = 0; what <= 2; what++) {
            int asked = what;
            due.changesNothing(Roads::some, "turns(2, " + what + ")", x -> x.turns(2, asked));
        }
        due.changesNothing(Roads::full, "turns(1, 2)", x -> x.turns(1, 2));
    }
}
