/** A road whose milestones the law puts where those who walked it felt them; ../shared/DOC.md is its contract. */
public final class MileRoad {
    public static final int NONE = -1, UNKNOWN = -2, OUTSIDE = -3, NOT = -4, FULL = -5;

    private static final int FEWEST_STEPS = 4;
    private static final int MOST_STEPS = 20;
    private static final int FIRST_STEPS = 12;
    private static final int FIRST_HARD = 3;
    private static final int MOST_HARD = 9;
    private static final int FIRST_MILE = 10;
    private static final int MOST_MILE = 40;
    private static final int MOST_WALKERS = 6;
    private static final int MOST_SETS = 64;
    private static final int MOST_HABIT = 9;
    private static final int MOST_STONES = 8;
    private static final int LAST_LETTER = 255;
    private static final int MOST_LETTERS = 160;
    private static final int MOST_CLAUSES = 14;
    private static final int MOST_UNDONE = 8;
    private static final int MOST_SEEN = 6;
    private static final int TENTHS = 10;

    private static final int STEADY = 0, OLD = 1, DRUNK = 2, BACK = 3;
    private static final int TAKEN_AS_WALKER = 0, TAKEN_AS_STEADY = 1, TAKEN_AS_BACK = 4;
    private static final int WALK_DONE = 0, HILL_DONE = 1, MILE_DONE = 2;

    private final Text text;
    private final Reader reader;
    private final Road told;
    private final Road now;
    private final Road firstKept;
    private final Road secondKept;
    private int keptBits;
    private final Past past;
    private final Sightings sightings;
    private final Stones stones;
    private final Game game;

    public MileRoad() {
        text = new Text();
        reader = new Reader(text);
        told = new Road();
        now = new Road();
        firstKept = new Road();
        secondKept = new Road();
        past = new Past();
        sightings = new Sightings();
        stones = new Stones();
        game = new Game();
    }

    // ---- what is told

    public int write(int letter) {
        if (!within(letter, 0, LAST_LETTER)) {
            return OUTSIDE;
        }
        if (text.length >= MOST_LETTERS) {
            return FULL;
        }
        text.add(letter);
        return text.length;
    }

    public int erase() {
        int had = text.length;
        text.clear();
        return had;
    }

    public int fault() {
        reader.read(told);
        return reader.faultPlace;
    }

    public int road() {
        reader.read(told);
        if (reader.faultPlace != NONE) {
            return NOT;
        }
        told.take(reader.draft);
        now.take(told);
        text.clear();
        sightings.held = 0;
        past.held = 0;
        keptBits = 0;
        return reader.clauses;
    }

    public int walker(int walker, int what) {
        if (!now.has(walker)) {
            return UNKNOWN;
        }
        switch (what) {
            case 0:
                return now.kinds.at(walker);
            case 1:
                return now.habits.at(walker);
            case 2:
                return now.hasWalked(walker);
            case 3:
                return now.stonesOf(walker);
            case 4:
                return now.allFeltBy(walker);
            default:
                return OUTSIDE;
        }
    }

    public int as(int walker, int kind) {
        if (!now.has(walker)) {
            return UNKNOWN;
        }
        if (!within(kind, TAKEN_AS_WALKER, TAKEN_AS_BACK)) {
            return OUTSIDE;
        }
        int own = now.kinds.at(walker);
        if (!canBeTakenAs(own, kind)) {
            return NOT;
        }
        return now.felt(own, now.habits.at(walker), now.steps);
    }

    public int step(int step) {
        if (!within(step, 1, now.steps)) {
            return OUTSIDE;
        }
        return now.hard.at(step);
    }

    // ---- what is done

    public int walks(int walker, int on) {
        if (!now.has(walker)) {
            return UNKNOWN;
        }
        if (!within(on, 0, 1)) {
            return OUTSIDE;
        }
        int had = now.hasWalked(walker);
        past.add(WALK_DONE, walker, had);
        now.setWalked(walker, on);
        return had;
    }

    public int flatten(int step, int h) {
        if (!within(step, 1, now.steps) || !within(h, 1, MOST_HARD)) {
            return OUTSIDE;
        }
        int was = now.hard.at(step);
        past.add(HILL_DONE, step, was);
        now.hard.put(step, h);
        return was;
    }

    public int mile(int m) {
        if (!within(m, 1, MOST_MILE)) {
            return OUTSIDE;
        }
        int was = now.mile;
        past.add(MILE_DONE, 0, was);
        now.mile = m;
        return was;
    }

    public int undo() {
        if (past.held <= 0) {
            return NOT;
        }
        past.undoLatest(now);
        return past.held;
    }

    public int keep(int k) {
        if (!within(k, 0, 1)) {
            return UNKNOWN;
        }
        keptAs(k).take(now);
        keptBits |= 1 << k;
        return Integer.bitCount(now.walked);
    }

    public int back(int k) {
        if (!within(k, 0, 1)) {
            return UNKNOWN;
        }
        if ((keptBits & 1 << k) == 0) {
            return NOT;
        }
        now.take(keptAs(k));
        past.held = 0;
        return Integer.bitCount(now.walked);
    }

    // ---- stones

    public int stone(int walker, int k) {
        if (!now.has(walker)) {
            return UNKNOWN;
        }
        if (!within(k, 1, MOST_STONES)) {
            return OUTSIDE;
        }
        return now.stoneOf(walker, k);
    }

    public int law(int k, int part) {
        if (!within(k, 1, MOST_STONES) || !within(part, 0, 1)) {
            return OUTSIDE;
        }
        stones.find(now, k);
        int number = stones.numberOf(now.walked);
        return number == 0 ? NONE : partOf(stones.sumOf(now.walked), number, part);
    }

    public int crossed() {
        for (int k = 1; k < MOST_STONES; k++) {
            if (crossesNext(k)) {
                return k;
            }
        }
        return NONE;
    }

    public int books(int a, int b) {
        if (!within(a, 0, now.steps) || !within(b, 0, now.steps)) {
            return OUTSIDE;
        }
        return lawStonesBetween(Math.min(a, b), Math.max(a, b));
    }

    // ---- foretold

    public int send(int k, int p, int far) {
        if (!within(k, 1, MOST_STONES) || !within(p, 0, now.steps) || !within(far, 0, 1)) {
            return OUTSIDE;
        }
        stones.find(now, k);
        return fewestToSend(p, far == 1);
    }

    public int turns(int k, int what) {
        if (!within(k, 1, MOST_STONES) || !within(what, 0, 2)) {
            return OUTSIDE;
        }
        stones.find(now, k);
        game.play(stones, now.walked);
        if (what == 2) {
            return game.sentFrom(now.walked);
        }
        return partOf(game.aboveFrom(now.walked), game.belowFrom(now.walked), what);
    }

    // ---- what was seen

    public int seen(int walker, int k, int p) {
        if (!now.has(walker)) {
            return UNKNOWN;
        }
        if (!within(k, 1, MOST_STONES) || !within(p, 0, now.steps)) {
            return OUTSIDE;
        }
        if (sightings.held >= MOST_SEEN) {
            return FULL;
        }
        sightings.add(walker, k, p);
        return sightings.held;
    }

    public int forget() {
        int had = sightings.held;
        sightings.held = 0;
        return had;
    }

    public int what(int walker) {
        if (!now.has(walker)) {
            return UNKNOWN;
        }
        int kinds = 0;
        for (int kind = STEADY; kind <= BACK; kind++) {
            if (sightings.fitKind(now, walker, kind)) {
                kinds |= 1 << kind;
            }
        }
        return kinds;
    }

    public int miles(int what) {
        if (!within(what, 0, 1)) {
            return OUTSIDE;
        }
        int number = 0;
        int least = NONE;
        for (int mile = MOST_MILE; mile >= 1; mile--) {
            if (sightings.fitMile(now, mile)) {
                number++;
                least = mile;
            }
        }
        return what == 0 ? number : least;
    }

    public int cider(int k, int p, int q, int part) {
        if (!within(k, 1, MOST_STONES) || !within(p, 0, now.steps)
                || !within(q, 0, TENTHS) || !within(part, 0, 1)) {
            return OUTSIDE;
        }
        stones.find(now, k);
        return partOf(waysNotShortOf(p, q), power(TENTHS, now.walkers), part);
    }

    public int count(int what) {
        switch (what) {
            case 0:
                return now.steps;
            case 1:
                return now.walkers;
            case 2:
                return now.mile;
            case 3:
                return now.walked;
            case 4:
                return now.allHard();
            case 5:
                // A STONE may stand at the beginning itself, so all are those beyond -1.
                return lawStonesBetween(-1, now.steps);
            case 6:
                return sightings.held;
            case 7:
                return past.held;
            case 8:
                return text.length;
            default:
                return OUTSIDE;
        }
    }

    // ---- helpers

    private static boolean within(int number, int least, int most) {
        return number >= least && number <= most;
    }

    private static boolean canBeTakenAs(int own, int taken) {
        if (taken == TAKEN_AS_WALKER) {
            return true;
        }
        if (taken == TAKEN_AS_STEADY) {
            return own != BACK;
        }
        // Below STEADY the numbers are those of the KINDS, one higher.
        return own == taken - 1;
    }

    private Road keptAs(int k) {
        return k == 0 ? firstKept : secondKept;
    }

    private boolean crossesNext(int k) {
        stones.find(now, k);
        int sum = stones.sumOf(now.walked);
        int number = stones.numberOf(now.walked);
        stones.find(now, k + 1);
        int nextSum = stones.sumOf(now.walked);
        int nextNumber = stones.numberOf(now.walked);
        return number > 0 && nextNumber > 0 && nextSum * number <= sum * nextNumber;
    }

    /** How many STONES stand by THE LAW beyond the place near and not beyond the place far. */
    private int lawStonesBetween(int near, int far) {
        int between = 0;
        for (int k = 1; k <= MOST_STONES; k++) {
            stones.find(now, k);
            int sum = stones.sumOf(now.walked);
            int number = stones.numberOf(now.walked);
            if (number > 0 && sum > near * number && sum <= far * number) {
                between++;
            }
        }
        return between;
    }

    private int fewestToSend(int p, boolean far) {
        int best = NONE;
        for (int set = 0; set < 1 << now.walkers; set++) {
            boolean isNew = (set & now.walked) == 0;
            boolean isFewer = best == NONE || Integer.bitCount(set) < Integer.bitCount(best);
            if (isNew && isFewer && standsAsWished(set | now.walked, p, far)) {
                best = set;
            }
        }
        return best;
    }

    private boolean standsAsWished(int set, int p, boolean far) {
        int number = stones.numberOf(set);
        if (number == 0) {
            return false;
        }
        int sum = stones.sumOf(set);
        return far ? sum >= p * number : sum <= p * number;
    }

    /** Of 10 to the number of WALKERS ways, those in which the STONE is not short of p. */
    private int waysNotShortOf(int p, int q) {
        int ways = 0;
        for (int set = 0; set < 1 << now.walkers; set++) {
            // Nobody's STONE counts as at the road's end, and no p is beyond that.
            if (stones.numberOf(set) == 0 || standsAsWished(set, p, true)) {
                int walking = Integer.bitCount(set);
                ways += power(q, walking) * power(TENTHS - q, now.walkers - walking);
            }
        }
        return ways;
    }

    private static int power(int base, int exponent) {
        int result = 1;
        for (int i = 0; i < exponent; i++) {
            result *= base;
        }
        return result;
    }

    private static int partOf(int above, int below, int part) {
        int common = commonDivisor(above, below);
        int asked = part == 0 ? above : below;
        return common == 0 ? asked : asked / common;
    }

    private static int commonDivisor(int a, int b) {
        int larger = a;
        int smaller = b;
        // Numbers of 31 bits are through after fewer than 64 rounds.
        for (int round = 0; round < 64 && smaller != 0; round++) {
            int rest = larger % smaller;
            larger = smaller;
            smaller = rest;
        }
        return larger;
    }

    /** A row of numbers that answers 0 beyond its ends, so that no index can be wrong. */
    private static final class Row {
        private final int[] cells;

        Row(int length) {
            cells = new int[Math.max(0, length)];
        }

        int at(int i) {
            return i >= 0 && i < cells.length ? cells[i] : 0;
        }

        void put(int i, int value) {
            if (i >= 0 && i < cells.length) {
                cells[i] = value;
            }
        }

        void take(Row other) {
            for (int i = 0; i < cells.length; i++) {
                cells[i] = other.at(i);
            }
        }

        /** All numbers one place nearer to the beginning; the first one is lost. */
        void shift() {
            for (int i = 1; i < cells.length; i++) {
                cells[i - 1] = cells[i];
            }
        }
    }

    /** STEPS, the MILE, WALKERS and who of them has WALKED. */
    private static final class Road {
        private int steps;
        private int mile;
        private int walkers;
        private int walked;
        private final Row hard = new Row(MOST_STEPS + 1);
        private final Row kinds = new Row(MOST_WALKERS);
        private final Row habits = new Row(MOST_WALKERS);

        Road() {
            lay(FIRST_STEPS);
        }

        void lay(int length) {
            steps = length;
            mile = FIRST_MILE;
            leaveNobody();
            raise(1, length, FIRST_HARD);
        }

        void raise(int from, int to, int h) {
            for (int step = from; step <= to; step++) {
                hard.put(step, h);
            }
        }

        void leaveNobody() {
            walkers = 0;
            walked = 0;
        }

        void hire(int kind, int habit) {
            kinds.put(walkers, kind);
            habits.put(walkers, habit);
            walkers++;
        }

        void take(Road other) {
            steps = other.steps;
            mile = other.mile;
            walkers = other.walkers;
            walked = other.walked;
            hard.take(other.hard);
            kinds.take(other.kinds);
            habits.take(other.habits);
        }

        boolean has(int walker) {
            return within(walker, 0, walkers - 1);
        }

        int hasWalked(int walker) {
            return walked >> walker & 1;
        }

        void setWalked(int walker, int on) {
            walked = on == 1 ? walked | 1 << walker : walked & ~(1 << walker);
        }

        int allHard() {
            int all = 0;
            for (int step = 1; step <= steps; step++) {
                all += hard.at(step);
            }
            return all;
        }

        /** What one of that kind and habit feels at his g-th step. */
        int felt(int kind, int habit, int g) {
            int own = hard.at(kind == BACK ? steps + 1 - g : g);
            if (kind == BACK) {
                return own + habit;
            }
            if (kind == OLD && habit > 0) {
                return own + (g - 1) / habit;
            }
            if (kind == DRUNK && habit > 0 && g % habit == 0) {
                return own * 2;
            }
            return own;
        }

        int allFeltBy(int walker) {
            int all = 0;
            for (int g = 1; g <= steps; g++) {
                all += felt(kinds.at(walker), habits.at(walker), g);
            }
            return all;
        }

        /** Where one of that kind and habit has gone when all that he felt comes to so much. */
        int placeFelt(int kind, int habit, int muchFelt) {
            int all = 0;
            for (int g = 1; g <= steps; g++) {
                all += felt(kind, habit, g);
                if (all >= muchFelt) {
                    return kind == BACK ? steps - g : g;
                }
            }
            return NONE;
        }

        int stoneOf(int walker, int k) {
            return placeFelt(kinds.at(walker), habits.at(walker), k * mile);
        }

        int stonesOf(int walker) {
            return mile <= 0 ? 0 : Math.min(MOST_STONES, allFeltBy(walker) / mile);
        }
    }

    /** THE TEXT, and in it the TOKEN that is read now. */
    private static final class Text {
        private static final int OTHER = 0, SMALL = 1, DIGIT = 2;

        private final Row letters = new Row(MOST_LETTERS);
        private int length;
        private int begin;
        private int end;

        void add(int letter) {
            letters.put(length, letter);
            length++;
        }

        void clear() {
            length = 0;
        }

        void readFirst() {
            end = 0;
            readNext();
        }

        void readNext() {
            begin = end;
            while (begin < length && letters.at(begin) == ' ') {
                begin++;
            }
            int sort = sortOf(letters.at(begin));
            end = Math.min(begin + 1, length);
            while (sort != OTHER && end < length && sortOf(letters.at(end)) == sort) {
                end++;
            }
        }

        boolean isAtEnd() {
            return begin >= length;
        }

        boolean isAt(String token) {
            if (end - begin != token.length()) {
                return false;
            }
            for (int i = 0; i < token.length(); i++) {
                if (letters.at(begin + i) != token.charAt(i)) {
                    return false;
                }
            }
            return true;
        }

        /** The TOKEN as a number of one or two digits; NONE, if it is no such number. */
        int number() {
            if (isAtEnd() || sortOf(letters.at(begin)) != DIGIT || end - begin > 2) {
                return NONE;
            }
            int value = 0;
            for (int i = begin; i < end; i++) {
                value = value * 10 + letters.at(i) - '0';
            }
            return value;
        }

        private static int sortOf(int letter) {
            if (letter >= 'a' && letter <= 'z') {
                return SMALL;
            }
            return letter >= '0' && letter <= '9' ? DIGIT : OTHER;
        }
    }

    /** Reads THE TEXT to its first FAULT and does its CLAUSES on a draft of the road. */
    private static final class Reader {
        private final Text text;
        private final Road draft = new Road();
        private int clauses;
        private int faultPlace;

        Reader(Text text) {
            this.text = text;
        }

        void read(Road told) {
            draft.take(told);
            clauses = 0;
            faultPlace = NONE;
            text.readFirst();
            while (clauses < MOST_CLAUSES) {
                readClause();
                clauses++;
                if (faultPlace != NONE || text.isAtEnd()) {
                    return;
                }
                if (clauses == MOST_CLAUSES || !text.isAt(";")) {
                    faultPlace = text.begin;
                    return;
                }
                text.readNext();
            }
        }

        private void readClause() {
            if (text.isAt("road")) {
                readRoad();
            } else if (text.isAt("hill")) {
                readHill();
            } else if (text.isAt("mile")) {
                readMile();
            } else if (text.isAt("nobody")) {
                text.readNext();
                draft.leaveNobody();
            } else {
                readWalker(kindAtToken());
            }
        }

        private void readRoad() {
            text.readNext();
            int length = readNumber(FEWEST_STEPS, MOST_STEPS);
            if (length != NONE) {
                draft.lay(length);
            }
        }

        private void readHill() {
            text.readNext();
            int from = readNumber(1, draft.steps);
            int to = from == NONE ? NONE : readNumber(from, draft.steps);
            int h = to == NONE ? NONE : readNumber(1, MOST_HARD);
            if (h != NONE) {
                draft.raise(from, to, h);
            }
        }

        private void readMile() {
            text.readNext();
            int mile = readNumber(1, MOST_MILE);
            if (mile != NONE) {
                draft.mile = mile;
            }
        }

        private void readWalker(int kind) {
            if (kind == NONE || draft.walkers >= MOST_WALKERS) {
                faultPlace = text.begin;
                return;
            }
            text.readNext();
            int habit = readNumber(1, MOST_HABIT);
            if (habit != NONE) {
                draft.hire(kind, habit);
            }
        }

        private int kindAtToken() {
            if (text.isAt("steady")) {
                return STEADY;
            }
            if (text.isAt("old")) {
                return OLD;
            }
            if (text.isAt("drunk")) {
                return DRUNK;
            }
            return text.isAt("back") ? BACK : NONE;
        }

        /** Passes the number at the TOKEN; NONE and a FAULT, if none within the bounds stands there. */
        private int readNumber(int least, int most) {
            int number = text.number();
            if (!within(number, least, most)) {
                faultPlace = text.begin;
                return NONE;
            }
            text.readNext();
            return number;
        }
    }

    /** The latest things done, each with what it changed and how that was. */
    private static final class Past {
        private final Row deeds = new Row(MOST_UNDONE);
        private final Row places = new Row(MOST_UNDONE);
        private final Row olds = new Row(MOST_UNDONE);
        private int held;

        void add(int deed, int place, int old) {
            if (held >= MOST_UNDONE) {
                deeds.shift();
                places.shift();
                olds.shift();
                held = MOST_UNDONE - 1;
            }
            deeds.put(held, deed);
            places.put(held, place);
            olds.put(held, old);
            held++;
        }

        void undoLatest(Road road) {
            held--;
            int deed = deeds.at(held);
            int old = olds.at(held);
            if (deed == WALK_DONE) {
                road.setWalked(places.at(held), old);
            } else if (deed == HILL_DONE) {
                road.hard.put(places.at(held), old);
            } else {
                road.mile = old;
            }
        }
    }

    /** What is SEEN: STONES of WALKERS at places. */
    private static final class Sightings {
        private final Row walkers = new Row(MOST_SEEN);
        private final Row numbers = new Row(MOST_SEEN);
        private final Row places = new Row(MOST_SEEN);
        private int held;

        void add(int walker, int k, int p) {
            walkers.put(held, walker);
            numbers.put(held, k);
            places.put(held, p);
            held++;
        }

        boolean fitKind(Road road, int walker, int kind) {
            for (int i = 0; i < held; i++) {
                if (walkers.at(i) == walker && !fits(i, road, kind, road.mile)) {
                    return false;
                }
            }
            return true;
        }

        boolean fitMile(Road road, int mile) {
            for (int i = 0; i < held; i++) {
                if (!fits(i, road, road.kinds.at(walkers.at(i)), mile)) {
                    return false;
                }
            }
            return true;
        }

        private boolean fits(int i, Road road, int kind, int mile) {
            int habit = road.habits.at(walkers.at(i));
            return road.placeFelt(kind, habit, numbers.at(i) * mile) == places.at(i);
        }
    }

    /** Where each WALKER has his STONE of one number; sets of WALKERS are bits. */
    private static final class Stones {
        private final Row places = new Row(MOST_WALKERS);
        private int walkers;
        private int steps;

        void find(Road road, int k) {
            walkers = road.walkers;
            steps = road.steps;
            for (int walker = 0; walker < walkers; walker++) {
                places.put(walker, road.stoneOf(walker, k));
            }
        }

        int sumOf(int set) {
            int sum = 0;
            for (int walker = 0; walker < walkers; walker++) {
                if (counts(walker, set)) {
                    sum += places.at(walker);
                }
            }
            return sum;
        }

        int numberOf(int set) {
            int number = 0;
            for (int walker = 0; walker < walkers; walker++) {
                if (counts(walker, set)) {
                    number++;
                }
            }
            return number;
        }

        private boolean counts(int walker, int set) {
            return (set >> walker & 1) == 1 && places.at(walker) != NONE;
        }
    }

    /** TURNS, played from the set of all WALKERS down to those who have WALKED; each set is worth a fraction. */
    private static final class Game {
        private final Row above = new Row(MOST_SETS);
        private final Row below = new Row(MOST_SETS);
        private final Row sent = new Row(MOST_SETS);

        void play(Stones stones, int walked) {
            int sentBefore = Integer.bitCount(walked);
            for (int set = (1 << stones.walkers) - 1; set >= 0; set--) {
                if ((set & walked) == walked) {
                    boolean near = (Integer.bitCount(set) - sentBefore) % 2 == 0;
                    chooseBest(stones, set, near);
                }
            }
        }

        int sentFrom(int set) {
            return sent.at(set);
        }

        int aboveFrom(int set) {
            return above.at(set);
        }

        int belowFrom(int set) {
            return below.at(set);
        }

        /** Whoever is sent, the larger set's worth is known already. */
        private void chooseBest(Stones stones, int set, boolean near) {
            settle(set, NONE, 0, 0);
            for (int walker = 0; walker < stones.walkers; walker++) {
                int larger = set | 1 << walker;
                if (larger != set && isBetter(above.at(larger), below.at(larger), set, near)) {
                    settle(set, walker, above.at(larger), below.at(larger));
                }
            }
            int number = stones.numberOf(set);
            int passAbove = number == 0 ? stones.steps : stones.sumOf(set);
            int passBelow = number == 0 ? 1 : number;
            if (isBetter(passAbove, passBelow, set, near)) {
                settle(set, NONE, passAbove, passBelow);
            }
        }

        private void settle(int set, int walker, int top, int bottom) {
            sent.put(set, walker);
            above.put(set, top);
            below.put(set, bottom);
        }

        private boolean isBetter(int top, int bottom, int set, boolean near) {
            // A bottom of 0 says that nothing was chosen yet.
            if (below.at(set) == 0) {
                return true;
            }
            int mine = top * below.at(set);
            int chosen = above.at(set) * bottom;
            return near ? mine < chosen : mine > chosen;
        }
    }
}
