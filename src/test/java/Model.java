import java.math.BigInteger;
import java.util.ArrayDeque;
import java.util.ArrayList;
import java.util.Arrays;
import java.util.Deque;
import java.util.List;

/** The document once more, written as slowly and as differently from the program as it goes: what ModelTest compares with. */
final class Model {
    static final int NONE = -1, UNKNOWN = -2, OUTSIDE = -3, NOT = -4, FULL = -5;

    /** A fraction of whole numbers in lowest terms. */
    record Part(BigInteger above, BigInteger below) implements Comparable<Part> {
        static Part of(long above, long below) {
            BigInteger a = BigInteger.valueOf(above);
            BigInteger b = BigInteger.valueOf(below);
            BigInteger common = a.gcd(b);
            return new Part(a.divide(common), b.divide(common));
        }

        Part plus(Part other) {
            return reduced(above.multiply(other.below).add(other.above.multiply(below)), below.multiply(other.below));
        }

        Part times(Part other) {
            return reduced(above.multiply(other.above), below.multiply(other.below));
        }

        private static Part reduced(BigInteger a, BigInteger b) {
            BigInteger common = a.gcd(b);
            return new Part(a.divide(common), b.divide(common));
        }

        @Override
        public int compareTo(Part other) {
            return above.multiply(other.below).compareTo(other.above.multiply(below));
        }

        int told(int part) {
            return (part == 0 ? above : below).intValueExact();
        }
    }

    /** One whole state of the road; a change makes another one. */
    record State(List<Integer> hard, int mile, List<int[]> walkers, List<Boolean> walked) {
        State withWalked(int walker, boolean on) {
            List<Boolean> other = new ArrayList<>(walked);
            other.set(walker, on);
            return new State(hard, mile, walkers, other);
        }

        int n() {
            return hard.size();
        }
    }

    private String text = "";
    private State told = new State(filled(12), 10, List.of(), List.of());
    private State now = told;
    private final State[] kept = new State[2];
    private final Deque<State> before = new ArrayDeque<>();
    private final List<int[]> seen = new ArrayList<>();

    private static List<Integer> filled(int n) {
        return new ArrayList<>(java.util.Collections.nCopies(n, 3));
    }

    // ---- what is told

    int write(int letter) {
        if (letter < 0 || letter > 255) {
            return OUTSIDE;
        }
        if (text.length() == 160) {
            return FULL;
        }
        text += (char) letter;
        return text.length();
    }

    int erase() {
        int had = text.length();
        text = "";
        return had;
    }

    private record Token(String word, int place) {
    }

    private List<Token> tokens() {
        List<Token> tokens = new ArrayList<>();
        java.util.regex.Matcher m = java.util.regex.Pattern.compile("[a-z]+|[0-9]+|[^ ]", java.util.regex.Pattern.DOTALL)
            .matcher(text);
        while (m.find()) {
            tokens.add(new Token(m.group(), m.start()));
        }
        tokens.add(new Token("", text.length()));
        return tokens;
    }

    private static final List<String> KINDS = List.of("steady", "old", "drunk", "back");

    private static int number(Token token, int least, int most) {
        if (!token.word.matches("[0-9]{1,2}")) {
            return NONE;
        }
        int value = Integer.parseInt(token.word);
        return value < least || value > most ? NONE : value;
    }

    /** The state that the text tells, or null with faultPlace set. */
    private State reading;
    private int clauses;

    private int readToFault() {
        List<Integer> hard = new ArrayList<>(told.hard);
        int mile = told.mile;
        List<int[]> walkers = new ArrayList<>(told.walkers);
        List<Token> tokens = tokens();
        int i = 0;
        clauses = 0;
        while (true) {
            String word = tokens.get(i).word;
            int[] numbers = new int[3];
            List<int[]> bounds = new ArrayList<>();
            if (word.equals("road")) {
                bounds.add(new int[] {4, 20});
            } else if (word.equals("hill")) {
                bounds.add(new int[] {1, hard.size()});
                bounds.add(null);
                bounds.add(new int[] {1, 9});
            } else if (word.equals("mile")) {
                bounds.add(new int[] {1, 40});
            } else if (KINDS.contains(word)) {
                if (walkers.size() == 6) {
                    return tokens.get(i).place;
                }
                bounds.add(new int[] {1, 9});
            } else if (!word.equals("nobody")) {
                return tokens.get(i).place;
            }
            i++;
            for (int j = 0; j < bounds.size(); j++) {
                int[] bound = bounds.get(j) == null ? new int[] {numbers[0], hard.size()} : bounds.get(j);
                numbers[j] = number(tokens.get(i), bound[0], bound[1]);
                if (numbers[j] == NONE) {
                    return tokens.get(i).place;
                }
                i++;
            }
            switch (word) {
                case "road" -> {
                    hard = filled(numbers[0]);
                    mile = 10;
                    walkers.clear();
                }
                case "hill" -> {
                    for (int step = numbers[0]; step <= numbers[1]; step++) {
                        hard.set(step - 1, numbers[2]);
                    }
                }
                case "mile" -> mile = numbers[0];
                case "nobody" -> walkers.clear();
                default -> walkers.add(new int[] {KINDS.indexOf(word), numbers[0]});
            }
            clauses++;
            Token next = tokens.get(i);
            if (next.word.isEmpty()) {
                reading = new State(hard, mile, walkers,
                    new ArrayList<>(java.util.Collections.nCopies(walkers.size(), false)));
                return NONE;
            }
            if (!next.word.equals(";") || clauses == 14) {
                return next.place;
            }
            i++;
        }
    }

    int fault() {
        return readToFault();
    }

    int road() {
        if (readToFault() != NONE) {
            return NOT;
        }
        told = reading;
        now = reading;
        text = "";
        seen.clear();
        before.clear();
        Arrays.fill(kept, null);
        return clauses;
    }

    private boolean knows(int walker) {
        return walker >= 0 && walker < now.walkers.size();
    }

    private static boolean out(int number, int least, int most) {
        return number < least || number > most;
    }

    /** What each step, as he goes them, was felt to be. */
    private static List<Integer> felt(State s, int kind, int habit) {
        List<Integer> felt = new ArrayList<>();
        for (int g = 1; g <= s.n(); g++) {
            int ahead = s.hard.get(g - 1);
            felt.add(switch (kind) {
                case 0 -> ahead;
                case 1 -> ahead + (int) Math.floor((g - 1) / (double) habit);
                case 2 -> g % habit == 0 ? ahead + ahead : ahead;
                default -> s.hard.get(s.n() - g) + habit;
            });
        }
        return felt;
    }

    private static int stone(State s, int kind, int habit, int k, int mile) {
        List<Integer> felt = felt(s, kind, habit);
        for (int gone = 1; gone <= s.n(); gone++) {
            if (felt.subList(0, gone).stream().mapToInt(f -> f).sum() >= k * mile) {
                return kind == 3 ? s.n() - gone : gone;
            }
        }
        return NONE;
    }

    private static int stone(State s, int walker, int k) {
        int[] w = s.walkers.get(walker);
        return stone(s, w[0], w[1], k, s.mile);
    }

    int walker(int walker, int what) {
        if (!knows(walker)) {
            return UNKNOWN;
        }
        if (out(what, 0, 4)) {
            return OUTSIDE;
        }
        int[] w = now.walkers.get(walker);
        int stones = 0;
        for (int k = 1; k <= 8; k++) {
            stones += stone(now, walker, k) == NONE ? 0 : 1;
        }
        return new int[] {w[0], w[1], now.walked.get(walker) ? 1 : 0, stones,
            felt(now, w[0], w[1]).stream().mapToInt(f -> f).sum()}[what];
    }

    int as(int walker, int kind) {
        if (!knows(walker)) {
            return UNKNOWN;
        }
        if (out(kind, 0, 4)) {
            return OUTSIDE;
        }
        List<List<Integer>> canBe = List.of(List.of(0, 1), List.of(0, 1, 2), List.of(0, 1, 3), List.of(0, 4));
        int[] w = now.walkers.get(walker);
        return canBe.get(w[0]).contains(kind) ? felt(now, w[0], w[1]).get(now.n() - 1) : NOT;
    }

    int step(int step) {
        return out(step, 1, now.n()) ? OUTSIDE : now.hard.get(step - 1);
    }

    // ---- what is done

    private void becomes(State next) {
        before.addLast(now);
        if (before.size() > 8) {
            before.removeFirst();
        }
        now = next;
    }

    int walks(int walker, int on) {
        if (!knows(walker)) {
            return UNKNOWN;
        }
        if (out(on, 0, 1)) {
            return OUTSIDE;
        }
        int had = now.walked.get(walker) ? 1 : 0;
        becomes(now.withWalked(walker, on == 1));
        return had;
    }

    int flatten(int step, int h) {
        if (out(step, 1, now.n()) || out(h, 1, 9)) {
            return OUTSIDE;
        }
        List<Integer> hard = new ArrayList<>(now.hard);
        int was = hard.set(step - 1, h);
        becomes(new State(hard, now.mile, now.walkers, now.walked));
        return was;
    }

    int mile(int m) {
        if (out(m, 1, 40)) {
            return OUTSIDE;
        }
        int was = now.mile;
        becomes(new State(now.hard, m, now.walkers, now.walked));
        return was;
    }

    int undo() {
        if (before.isEmpty()) {
            return NOT;
        }
        now = before.removeLast();
        return before.size();
    }

    private int walkedNow() {
        return (int) now.walked.stream().filter(w -> w).count();
    }

    int keep(int k) {
        if (out(k, 0, 1)) {
            return UNKNOWN;
        }
        kept[k] = now;
        return walkedNow();
    }

    int back(int k) {
        if (out(k, 0, 1)) {
            return UNKNOWN;
        }
        if (kept[k] == null) {
            return NOT;
        }
        now = kept[k];
        before.clear();
        return walkedNow();
    }

    // ---- stones

    int stone(int walker, int k) {
        if (!knows(walker)) {
            return UNKNOWN;
        }
        return out(k, 1, 8) ? OUTSIDE : stone(now, walker, k);
    }

    private static Part law(State s, int k) {
        List<Integer> places = new ArrayList<>();
        for (int walker = 0; walker < s.walkers.size(); walker++) {
            if (s.walked.get(walker) && stone(s, walker, k) != NONE) {
                places.add(stone(s, walker, k));
            }
        }
        return places.isEmpty() ? null : Part.of(places.stream().mapToInt(p -> p).sum(), places.size());
    }

    private static Part lawOrEnd(State s, int k) {
        Part law = law(s, k);
        return law == null ? Part.of(s.n(), 1) : law;
    }

    int law(int k, int part) {
        if (out(k, 1, 8) || out(part, 0, 1)) {
            return OUTSIDE;
        }
        Part law = law(now, k);
        return law == null ? NONE : law.told(part);
    }

    int crossed() {
        for (int k = 1; k <= 7; k++) {
            Part former = law(now, k);
            Part latter = law(now, k + 1);
            if (former != null && latter != null && latter.compareTo(former) <= 0) {
                return k;
            }
        }
        return NONE;
    }

    int books(int a, int b) {
        if (out(a, 0, now.n()) || out(b, 0, now.n())) {
            return OUTSIDE;
        }
        int books = 0;
        for (int k = 1; k <= 8; k++) {
            Part law = law(now, k);
            if (law != null && law.compareTo(Part.of(Math.min(a, b), 1)) > 0
                && law.compareTo(Part.of(Math.max(a, b), 1)) <= 0) {
                books++;
            }
        }
        return books;
    }

    // ---- foretold

    private static State having(State s, int set) {
        State having = s;
        for (int walker = 0; walker < s.walkers.size(); walker++) {
            if ((set & 1 << walker) != 0) {
                having = having.withWalked(walker, true);
            }
        }
        return having;
    }

    int send(int k, int p, int far) {
        if (out(k, 1, 8) || out(p, 0, now.n()) || out(far, 0, 1)) {
            return OUTSIDE;
        }
        int free = (1 << now.walkers.size()) - 1 & ~count(3);
        for (int many = 0; many <= 6; many++) {
            for (int set = 0; set <= free; set++) {
                if ((set & ~free) == 0 && Integer.bitCount(set) == many) {
                    Part law = law(having(now, set), k);
                    int against = law == null ? 0 : law.compareTo(Part.of(p, 1));
                    if (law != null && (far == 1 ? against >= 0 : against <= 0)) {
                        return set;
                    }
                }
            }
        }
        return NONE;
    }

    /** Best for whoever is at the turn: the place, and whom he sends. */
    private static Object[] play(State s, int k, boolean first) {
        Part best = null;
        int sent = NONE;
        for (int walker = 0; walker < s.walkers.size(); walker++) {
            if (!s.walked.get(walker)) {
                Part place = (Part) play(s.withWalked(walker, true), k, !first)[0];
                if (best == null || (first ? place.compareTo(best) < 0 : place.compareTo(best) > 0)) {
                    best = place;
                    sent = walker;
                }
            }
        }
        Part passing = lawOrEnd(s, k);
        if (best == null || (first ? passing.compareTo(best) < 0 : passing.compareTo(best) > 0)) {
            return new Object[] {passing, NONE};
        }
        return new Object[] {best, sent};
    }

    int turns(int k, int what) {
        if (out(k, 1, 8) || out(what, 0, 2)) {
            return OUTSIDE;
        }
        Object[] played = play(now, k, true);
        return what == 2 ? (Integer) played[1] : ((Part) played[0]).told(what);
    }

    // ---- what was seen

    int seen(int walker, int k, int p) {
        if (!knows(walker)) {
            return UNKNOWN;
        }
        if (out(k, 1, 8) || out(p, 0, now.n())) {
            return OUTSIDE;
        }
        if (seen.size() == 6) {
            return FULL;
        }
        seen.add(new int[] {walker, k, p});
        return seen.size();
    }

    int forget() {
        int had = seen.size();
        seen.clear();
        return had;
    }

    int what(int walker) {
        if (!knows(walker)) {
            return UNKNOWN;
        }
        int bits = 15;
        for (int[] s : seen) {
            for (int kind = 0; kind < 4; kind++) {
                if (s[0] == walker && stone(now, kind, now.walkers.get(walker)[1], s[1], now.mile) != s[2]) {
                    bits &= ~(1 << kind);
                }
            }
        }
        return bits;
    }

    int miles(int what) {
        if (out(what, 0, 1)) {
            return OUTSIDE;
        }
        List<Integer> miles = new ArrayList<>();
        for (int mile = 1; mile <= 40; mile++) {
            boolean all = true;
            for (int[] s : seen) {
                int[] w = now.walkers.get(s[0]);
                all &= stone(now, w[0], w[1], s[1], mile) == s[2];
            }
            if (all) {
                miles.add(mile);
            }
        }
        return what == 0 ? miles.size() : miles.isEmpty() ? NONE : miles.get(0);
    }

    private static Part odds(State s, int walker, int k, int p, int q) {
        if (walker == s.walkers.size()) {
            return Part.of(lawOrEnd(s, k).compareTo(Part.of(p, 1)) >= 0 ? 1 : 0, 1);
        }
        Part goes = Part.of(q, 10).times(odds(s.withWalked(walker, true), walker + 1, k, p, q));
        return goes.plus(Part.of(10 - q, 10).times(odds(s.withWalked(walker, false), walker + 1, k, p, q)));
    }

    int cider(int k, int p, int q, int part) {
        if (out(k, 1, 8) || out(p, 0, now.n()) || out(q, 0, 10) || out(part, 0, 1)) {
            return OUTSIDE;
        }
        return odds(now, 0, k, p, q).told(part);
    }

    int count(int what) {
        if (out(what, 0, 8)) {
            return OUTSIDE;
        }
        int bits = 0;
        for (int walker = 0; walker < now.walkers.size(); walker++) {
            bits += now.walked.get(walker) ? 1 << walker : 0;
        }
        int stones = 0;
        for (int k = 1; k <= 8; k++) {
            stones += law(now, k) == null ? 0 : 1;
        }
        return new int[] {now.n(), now.walkers.size(), now.mile, bits, now.hard.stream().mapToInt(h -> h).sum(),
            stones, seen.size(), before.size(), text.length()}[what];
    }
}
