/** What the tests share: answers held against those that are due, and objects that a text was told to. */
final class Due {
    private static final int MOST_TOLD = 40;

    private int wrong;
    private int calls;

    void due(int promise, String call, long want, long got) {
        calls++;
        if (got != want) {
            wrong++;
            if (wrong <= MOST_TOLD) {
                System.out.println("promise " + promise + ": " + call + " answered " + got + ", due is " + want);
            }
        }
    }

    static void write(MileRoad x, String text) {
        for (int i = 0; i < text.length(); i++) {
            x.write(text.charAt(i));
        }
    }

    static MileRoad told(String text) {
        MileRoad x = new MileRoad();
        tell(x, text);
        return x;
    }

    static void tell(MileRoad x, String text) {
        write(x, text);
        if (x.road() < 1) {
            throw new IllegalStateException("the text has a fault: " + text);
        }
    }

    static int faultOf(MileRoad x, String text) {
        x.erase();
        write(x, text);
        return x.fault();
    }

    static MileRoad walked(String text, int... walkers) {
        MileRoad x = told(text);
        for (int walker : walkers) {
            x.walks(walker, 1);
        }
        return x;
    }

    void end(String test) {
        System.out.println(test + ": " + calls + " answers, " + wrong + " not as due");
        if (wrong != 0 || calls == 0) {
            System.exit(1);
        }
    }
}
