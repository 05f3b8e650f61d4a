import java.util.Random;

/** All promises: long runs of calls by a fixed seed, each answer held against the Model's. */
public final class ModelTest {
    private static final Due DUE = new Due();
    private static final int RUNS = 1500;
    private static final int CALLS = 512;
    private static final String[] WORDS = {"road", "hill", "mile", "steady", "old", "drunk", "back", "nobody"};

    private final MileRoad x = new MileRoad();
    private final Model model = new Model();
    private final Random random;
    private final int seed;
    private int calls;

    private ModelTest(int seed) {
        this.seed = seed;
        random = new Random(seed);
    }

    public static void main(String[] args) {
        for (int seed = 1; seed <= RUNS; seed++) {
            new ModelTest(seed).run();
        }
        DUE.end("ModelTest");
    }

    private void run() {
        tell(sound(true));
        while (calls < CALLS) {
            if (random.nextInt(60) == 0) {
                tell(random.nextInt(3) == 0 ? spoiled(sound(false)) : sound(random.nextInt(3) == 0));
            } else {
                call();
            }
        }
    }

    private void same(int promise, String call, long want, long got) {
        calls++;
        DUE.is("promise " + promise + ", run " + seed + ", call " + calls + ": " + call, want, got);
    }

    private void tell(String text) {
        if (random.nextInt(8) != 0) {
            same(3, "erase()", model.erase(), x.erase());
        }
        for (int i = 0; i < text.length(); i++) {
            int letter = text.charAt(i);
            same(2, "write(" + letter + ")", model.write(letter), x.write(letter));
        }
        same(4, "fault() of " + text, model.fault(), x.fault());
        same(5, "road() of " + text, model.road(), x.road());
    }

    private String blanks(int most) {
        return " ".repeat(random.nextInt(4) == 0 ? random.nextInt(most + 1) : 0);
    }

    private int between(int least, int most) {
        return least + random.nextInt(most - least + 1);
    }

    /** A text that mostly has no fault on the road as it is told. */
    private String sound(boolean anew) {
        int n = model.count(0);
        StringBuilder text = new StringBuilder();
        int many = between(1, random.nextInt(6) == 0 ? 15 : 8);
        for (int i = 0; i < many; i++) {
            text.append(i == 0 ? "" : blanks(2) + ";").append(blanks(2));
            String word = WORDS[anew && i == 0 ? 0 : random.nextInt(6) == 0 ? between(0, 7) : between(1, 6)];
            text.append(word);
            if (word.equals("road")) {
                n = between(4, 20);
                text.append(' ').append(n);
            } else if (word.equals("hill")) {
                int from = between(1, n);
                text.append(blanks(1)).append(from).append(' ').append(between(from, n)).append(' ')
                    .append(between(1, 9));
            } else if (word.equals("mile")) {
                text.append(blanks(1)).append(between(1, random.nextBoolean() ? 12 : 40));
            } else if (!word.equals("nobody")) {
                text.append(blanks(1)).append(between(1, 9));
            }
        }
        return text.append(blanks(2)).toString();
    }

    private String spoiled(String text) {
        StringBuilder spoiled = new StringBuilder(text);
        int place = random.nextInt(text.length());
        String letters = " ;0123456789abcdAZ.\t\u00e9\u0000";
        char letter = letters.charAt(random.nextInt(letters.length()));
        switch (random.nextInt(4)) {
            case 0:
                spoiled.deleteCharAt(place);
                break;
            case 1:
                spoiled.insert(place, letter);
                break;
            case 2:
                spoiled.setCharAt(place, letter);
                break;
            default:
                spoiled.setLength(place);
        }
        return spoiled.toString();
    }

    /** Mostly within the bounds, now and then at or beyond one, or far outside. */
    private int number(int least, int most) {
        int sort = random.nextInt(40);
        if (sort == 0) {
            return least - 1;
        }
        if (sort == 1) {
            return most + 1;
        }
        if (sort == 2) {
            return random.nextInt();
        }
        return most < least ? least : between(least, most);
    }

    private void call() {
        int sort = random.nextInt(20);
        if (sort < 6) {
            doSomething();
        } else if (sort < 11) {
            askOfWalkers();
        } else if (sort < 16) {
            askOfStones();
        } else {
            askOfWhatWasSeen();
        }
    }

    private int someWalker() {
        return number(0, model.count(1) - 1);
    }

    private int someStep(int least) {
        return number(least, model.count(0));
    }

    private void doSomething() {
        int a = someWalker();
        int b = number(0, 1);
        int step = someStep(1);
        int h = number(1, 9);
        int m = number(1, random.nextBoolean() ? 15 : 40);
        switch (random.nextInt(10)) {
            case 0, 1, 2, 3 -> same(9, "walks(" + a + ", " + b + ")", model.walks(a, b), x.walks(a, b));
            case 4, 5 -> same(10, "flatten(" + step + ", " + h + ")", model.flatten(step, h), x.flatten(step, h));
            case 6 -> same(11, "mile(" + m + ")", model.mile(m), x.mile(m));
            case 7 -> same(12, "undo()", model.undo(), x.undo());
            case 8 -> same(13, "keep(" + b + ")", model.keep(b), x.keep(b));
            default -> same(14, "back(" + b + ")", model.back(b), x.back(b));
        }
    }

    private void askOfWalkers() {
        int a = someWalker();
        int b = number(0, 4);
        int k = number(1, 8);
        int step = someStep(1);
        int what = number(0, 8);
        switch (random.nextInt(5)) {
            case 0 -> same(6, "walker(" + a + ", " + b + ")", model.walker(a, b), x.walker(a, b));
            case 1 -> same(7, "as(" + a + ", " + b + ")", model.as(a, b), x.as(a, b));
            case 2 -> same(8, "step(" + step + ")", model.step(step), x.step(step));
            case 3 -> same(15, "stone(" + a + ", " + k + ")", model.stone(a, k), x.stone(a, k));
            default -> same(26, "count(" + what + ")", model.count(what), x.count(what));
        }
    }

    private void askOfStones() {
        int k = number(1, 8);
        int a = someStep(0);
        int b = someStep(0);
        int part = number(0, 1);
        int what = number(0, 2);
        switch (random.nextInt(5)) {
            case 0 -> same(16, "law(" + k + ", " + part + ")", model.law(k, part), x.law(k, part));
            case 1 -> same(17, "crossed()", model.crossed(), x.crossed());
            case 2 -> same(18, "books(" + a + ", " + b + ")", model.books(a, b), x.books(a, b));
            case 3 -> same(19, "send(" + k + ", " + a + ", " + part + ")", model.send(k, a, part), x.send(k, a, part));
            default -> turnsOnFewRoads(k, what);
        }
    }

    /** The Model plays each game out anew, so that most of those with six to send are left out. */
    private void turnsOnFewRoads(int k, int what) {
        int left = model.count(1) - Integer.bitCount(model.count(3));
        if (left < 5 || random.nextInt(10) == 0) {
            same(20, "turns(" + k + ", " + what + ")", model.turns(k, what), x.turns(k, what));
        }
    }

    private void askOfWhatWasSeen() {
        int a = someWalker();
        int k = number(1, 8);
        int p = someStep(0);
        int q = number(0, 10);
        int part = number(0, 1);
        // Where he has it in truth, so that something fits.
        int place = random.nextInt(5) == 0 ? p : Math.max(p < 0 ? p : 0, model.stone(a, k));
        switch (random.nextInt(6)) {
            case 0 -> same(21, "seen(" + a + ", " + k + ", " + place + ")",
                model.seen(a, k, place), x.seen(a, k, place));
            case 1 -> {
                if (random.nextInt(3) == 0) {
                    same(22, "forget()", model.forget(), x.forget());
                }
            }
            case 2 -> same(23, "what(" + a + ")", model.what(a), x.what(a));
            case 3 -> same(24, "miles(" + part + ")", model.miles(part), x.miles(part));
            default -> same(25, "cider(" + k + ", " + p + ", " + q + ", " + part + ")",
                model.cider(k, p, q, part), x.cider(k, p, q, part));
        }
    }
}
