/** Promises 1 to 3: a new object, write, erase. */
public final class NewTest {
    public static void main(String[] args) throws IllegalAccessException {
        Due.runAll(NewTest.class);
    }

    @Says({"Twelve steps", "12 at first"})
    static void p01TwelveSteps(Due due) {
        MileRoad x = new MileRoad();
        due.is("count(0)", 12, x.count(0));
        due.is("step(12)", 3, x.step(12));
        due.is("step(13)", MileRoad.OUTSIDE, x.step(13));
    }

    @Says("(3 at first)")
    static void p01EachHardBy3(Due due) {
        MileRoad x = new MileRoad();
        for (int step = 1; step <= 12; step++) {
            due.is("step(" + step + ")", 3, x.step(step));
        }
        due.is("count(4)", 36, x.count(4));
        Roads.tell(x, "hill 1 1 5");
        due.is("count(4) behind a text of another hill", 38, x.count(4));
    }

    @Says("(10 at first)")
    static void p01AMileIs10(Due due) {
        MileRoad x = new MileRoad();
        due.is("count(2)", 10, x.count(2));
        Roads.tell(x, "steady 1");
        due.is("count(2) behind a text without a mile", 10, x.count(2));
        due.is("stone(0, 3), at thirty", 10, x.stone(0, 3));
    }

    @Says({"nobody", "(none at first)"})
    static void p01Nobody(Due due) {
        MileRoad x = new MileRoad();
        due.is("count(1)", 0, x.count(1));
        due.is("count(3)", 0, x.count(3));
        due.is("walker(0, 0)", MileRoad.UNKNOWN, x.walker(0, 0));
        Roads.tell(x, Roads.FIVE_WALKERS + ";old 6");
        due.is("count(1) behind a text of six", 6, x.count(1));
    }

    @Says("Twelve steps, nobody.")
    static void p01NothingIsWrittenYet(Due due) {
        MileRoad x = new MileRoad();
        due.is("count(8)", 0, x.count(8));
        due.is("fault()", 0, x.fault());
        due.is("erase()", 0, x.erase());
    }

    @Says("Twelve steps, nobody.")
    static void p01NothingIsDoneYet(Due due) {
        MileRoad x = new MileRoad();
        due.is("count(6)", 0, x.count(6));
        due.is("count(7)", 0, x.count(7));
        due.is("undo()", MileRoad.NOT, x.undo());
        due.is("back(0)", MileRoad.NOT, x.back(0));
        due.is("back(1)", MileRoad.NOT, x.back(1));
    }

    @Says("Twelve steps, nobody.")
    static void p01EachObjectIsItsOwn(Due due) {
        MileRoad before = new MileRoad();
        MileRoad full = Roads.full();
        for (MileRoad x : new MileRoad[] {before, new MileRoad()}) {
            int[] counts = {12, 0, 10, 0, 36, 0, 0, 0, 0};
            for (int what = 0; what < counts.length; what++) {
                due.is("count(" + what + ")", counts[what], x.count(what));
            }
            due.is("back(0)", MileRoad.NOT, x.back(0));
        }
        due.is("count(1) of the other", 6, full.count(1));
    }

    @Says("An object is used for at most 512 calls after it has been made")
    static void p01The512thCall(Due due) {
        MileRoad x = new MileRoad();
        for (int call = 1; call <= 511; call++) {
            x.mile(1 + call % 40);
        }
        due.is("mile(7)", 1 + 511 % 40, x.mile(7));
    }

    @Says("NONE = -1, UNKNOWN = -2, OUTSIDE = -3, NOT = -4, FULL = -5")
    static void p01TheConstants(Due due) throws ReflectiveOperationException {
        String[] names = {"NONE", "UNKNOWN", "OUTSIDE", "NOT", "FULL"};
        for (int i = 0; i < names.length; i++) {
            due.is(names[i], -1 - i, MileRoad.class.getDeclaredField(names[i]).getInt(null));
        }
    }

    @Says("(its number, 0 .. 255)")
    static void p02LeastLetter(Due due) {
        MileRoad x = new MileRoad();
        due.is("write(0)", 1, x.write(0));
        due.is("count(8)", 1, x.count(8));
    }

    @Says("(its number, 0 .. 255)")
    static void p02GreatestLetter(Due due) {
        MileRoad x = new MileRoad();
        due.is("write(255)", 1, x.write(255));
        due.is("count(8)", 1, x.count(8));
    }

    @Says({"A letter (its number, 0 .. 255) more of THE TEXT: how many it has.", "160 at most"})
    static void p02HowManyItHas(Due due) {
        MileRoad x = new MileRoad();
        for (int i = 1; i <= 160; i++) {
            due.is("write(97), " + i, i, x.write('a'));
        }
        due.is("count(8)", 160, x.count(8));
    }

    @Says("THE TEXT is a row of letters")
    static void p02LettersStandInTheirOrder(Due due) {
        due.is("fault() of letters as they came", MileRoad.NONE, Roads.written("mile 12").fault());
        due.is("fault() of letters the other way", 0, Roads.written("21 elim").fault());
        MileRoad x = Roads.told("mile 12");
        due.is("count(2)", 12, x.count(2));
    }

    @Says("OUTSIDE")
    static void p02OutsideBelow0(Due due) {
        for (int letter : new int[] {-1, -159, Integer.MIN_VALUE, 'a' - 256}) {
            due.refused(MileRoad.OUTSIDE, Roads::some, "write(" + letter + ")", x -> x.write(letter));
        }
    }

    @Says("OUTSIDE")
    static void p02OutsideAbove255(Due due) {
        for (int letter : new int[] {256, 'a' + 256, 'a' + 65536, Integer.MAX_VALUE}) {
            due.refused(MileRoad.OUTSIDE, Roads::some, "write(" + letter + ")", x -> x.write(letter));
        }
    }

    @Says({"FULL", "160 at most"})
    static void p02FullAt160(Due due) {
        for (int letter : new int[] {0, ' ', ';', 255}) {
            due.refused(MileRoad.FULL, Roads::full, "write(" + letter + ")", x -> x.write(letter));
        }
    }

    @Says({"OUTSIDE; FULL", "the first of these that fits"})
    static void p02OutsideAndFull(Due due) {
        for (int letter : new int[] {-1, 256}) {
            due.refused(MileRoad.OUTSIDE, Roads::full, "write(" + letter + ")", x -> x.write(letter));
        }
    }

    @Says("more of THE TEXT")
    static void p02ChangesTheTextAlone(Due due) {
        due.changesNothing(Roads::unwritten, "write(97) and erase()", x -> x.write('a') + x.erase());
    }

    @Says("how many letters it had")
    static void p03OfAnEmptyText(Due due) {
        due.is("erase() of a new object", 0, new MileRoad().erase());
        due.changesNothing(Roads::unwritten, "erase()", MileRoad::erase);
    }

    @Says("how many letters it had")
    static void p03OfOneLetter(Due due) {
        MileRoad x = Roads.written(" ");
        due.is("erase()", 1, x.erase());
        due.is("erase() again", 0, x.erase());
    }

    @Says("how many letters it had")
    static void p03OfAFullText(Due due) {
        MileRoad x = Roads.full();
        due.is("erase()", 160, x.erase());
        due.is("count(8)", 0, x.count(8));
        due.is("write(97) behind it", 1, x.write('a'));
    }

    @Says("THE TEXT is empty")
    static void p03TheTextIsEmpty(Due due) {
        MileRoad x = Roads.written("mile 123");
        x.erase();
        due.is("fault() behind erase()", 0, x.fault());
        due.is("road() behind erase()", MileRoad.NOT, x.road());
        Roads.write(x, "mile 4");
        due.is("fault() of a shorter text", MileRoad.NONE, x.fault());
        due.is("road()", 1, x.road());
        due.is("count(2)", 4, x.count(2));
    }
}
