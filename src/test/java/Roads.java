/** Objects that the tests begin with. */
final class Roads {
    /**
     * Felt, all in all, at the ends of steps 1 to 6: steady 9 10 13 16 19 23, old 9 10 14 18 23 29,
     * drunk 9 11 14 20 23 31, back 6 11 16 21 24 35. Stones: steady 1 2 4 6, old 1 2 4 5 6, drunk 1 2 4 4 6 6,
     * back 5 4 3 2 0 0 0.
     */
    static final String FOUR = "road 6; hill 1 1 9; hill 2 2 1; hill 6 6 4; mile 5;"
        + " steady 2; old 2; drunk 2; back 2";

    /** Fourteen clauses in 160 letters. */
    static final String LONGEST = "hill1 12 9;hill2 12 8;hill3 12 7;hill4 12 6;hill5 12 5;hill6 12 4;hill7 12 3;"
        + "hill8 12 2;hill9 12 1;mile 11;mile 12;old 7; back 8; drunk 9                       ";

    static final String FIVE_WALKERS = "old 1;old 2;back 3;drunk 4;steady 5";

    private Roads() {
    }

    static void write(MileRoad x, String text) {
        for (int i = 0; i < text.length(); i++) {
            x.write(text.charAt(i));
        }
    }

    static void tell(MileRoad x, String text) {
        write(x, text);
        if (x.road() < 1) {
            throw new IllegalStateException("the text has a fault: " + text);
        }
    }

    static MileRoad written(String text) {
        MileRoad x = new MileRoad();
        write(x, text);
        return x;
    }

    static MileRoad told(String text) {
        MileRoad x = new MileRoad();
        tell(x, text);
        return x;
    }

    static MileRoad walked(String text, int... walkers) {
        MileRoad x = told(text);
        for (int walker : walkers) {
            x.walks(walker, 1);
        }
        return x;
    }

    /** Two seen, five that can be undone, the first one kept, no text. */
    static MileRoad unwritten() {
        MileRoad x = walked(FOUR, 0);
        x.keep(0);
        x.walks(3, 1);
        x.flatten(3, 7);
        x.flatten(6, 5);
        x.mile(6);
        x.seen(1, 1, 1);
        x.seen(2, 3, 4);
        return x;
    }

    /** Something of all: the same, and a text begun. */
    static MileRoad some() {
        MileRoad x = unwritten();
        write(x, "mile 2;back 3");
        return x;
    }

    /** All that has a bound is full: letters, walkers, what is seen, what can be undone, what is kept. */
    static MileRoad full() {
        MileRoad x = told("road 20;hill 1 20 9;mile 39;" + FIVE_WALKERS + ";back 9");
        x.keep(0);
        x.flatten(20, 8);
        x.mile(40);
        for (int walker = 0; walker < 6; walker++) {
            x.seen(walker, walker + 1, 2 * walker);
            x.walks(walker, 1);
        }
        x.keep(1);
        write(x, LONGEST);
        return x;
    }
}
