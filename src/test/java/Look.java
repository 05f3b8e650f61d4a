import java.util.ArrayList;
import java.util.List;
import java.util.Map;
import java.util.TreeMap;
import java.util.function.Function;
import java.util.function.Supplier;
import java.util.function.ToIntFunction;

/** What calls can show of an object. Most looks change it, so that each has an object made for it. */
final class Look {
    private static final Map<String, Function<MileRoad, List<Integer>>> LOOKS = new TreeMap<>(Map.of(
        "what is asked", Look::asked,
        "what was, by what is done", Look::done,
        "what can be undone", Look::undone,
        "what 0 keeps", x -> broughtBack(x, 0),
        "what 1 keeps", x -> broughtBack(x, 1),
        "what the text tells", Look::told,
        "what earlier texts told", Look::toldBefore));

    private Look() {
    }

    /** In what two objects that were made alike differ, when the call is made on one of them. */
    static List<String> changedBy(Supplier<MileRoad> made, ToIntFunction<MileRoad> call) {
        List<String> changed = new ArrayList<>();
        LOOKS.forEach((name, look) -> {
            MileRoad other = made.get();
            call.applyAsInt(other);
            if (!look.apply(made.get()).equals(look.apply(other))) {
                changed.add(name);
            }
        });
        return changed;
    }

    private static List<Integer> asked(MileRoad x) {
        List<Integer> answers = road(x);
        for (int what = 0; what <= 8; what++) {
            answers.add(x.count(what));
        }
        for (int walker = 0; walker < 6; walker++) {
            for (int what = 0; what <= 4; what++) {
                answers.add(x.walker(walker, what));
            }
            answers.add(x.what(walker));
        }
        for (int k = 1; k <= 8; k++) {
            answers.add(x.law(k, 0));
            answers.add(x.law(k, 1));
        }
        answers.add(x.miles(0));
        answers.add(x.miles(1));
        answers.add(x.fault());
        return answers;
    }

    private static List<Integer> road(MileRoad x) {
        List<Integer> answers = new ArrayList<>(List.of(x.count(1), x.count(2), x.count(3)));
        for (int step = 1; step <= 20; step++) {
            answers.add(x.step(step));
        }
        return answers;
    }

    /** What each call that changes something says of what was; so no question is asked that might change it first. */
    private static List<Integer> done(MileRoad x) {
        List<Integer> answers = new ArrayList<>(List.of(x.forget(), x.erase(), x.mile(1)));
        for (int walker = 0; walker < 6; walker++) {
            answers.add(x.walks(walker, 0));
        }
        for (int step = 1; step <= 20; step++) {
            answers.add(x.flatten(step, 1));
        }
        return answers;
    }

    private static List<Integer> undone(MileRoad x) {
        List<Integer> answers = new ArrayList<>();
        for (int i = 0; i < 9; i++) {
            answers.add(x.undo());
            answers.addAll(road(x));
        }
        return answers;
    }

    private static List<Integer> broughtBack(MileRoad x, int k) {
        List<Integer> answers = new ArrayList<>(List.of(x.back(k)));
        answers.addAll(asked(x));
        return answers;
    }

    private static List<Integer> told(MileRoad x) {
        List<Integer> answers = new ArrayList<>(List.of(x.road()));
        answers.addAll(asked(x));
        return answers;
    }

    private static List<Integer> toldBefore(MileRoad x) {
        List<Integer> answers = new ArrayList<>(List.of(x.erase()));
        Roads.tell(x, "nobody");
        answers.addAll(asked(x));
        return answers;
    }
}
