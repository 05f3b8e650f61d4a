/** Promises 1 to 5: a new object, write, erase, fault, road. */
public final class TextTest {
    private static final Due DUE = new Due();

    public static void main(String[] args) {
        aNewObject();
        letters();
        faultsOfNumbers();
        faultsOfWords();
        faultsOfEnds();
        blanksAndTokens();
        boundsThatTheTextMoves();
        fourteenClauses();
        sevenWalkers();
        whatATextTells();
        whatATextEnds();
        DUE.end("TextTest");
    }

    private static void aNewObject() {
        MileRoad x = new MileRoad();
        int[] counts = {12, 0, 10, 0, 36, 0, 0, 0, 0};
        for (int what = 0; what < counts.length; what++) {
            DUE.due(1, "count(" + what + ")", counts[what], x.count(what));
        }
        for (int step = 1; step <= 12; step++) {
            DUE.due(1, "step(" + step + ")", 3, x.step(step));
        }
        DUE.due(1, "walker(0, 0)", MileRoad.UNKNOWN, x.walker(0, 0));
        DUE.due(1, "undo()", MileRoad.NOT, x.undo());
        DUE.due(1, "back(0)", MileRoad.NOT, x.back(0));
        DUE.due(1, "back(1)", MileRoad.NOT, x.back(1));
    }

    private static void letters() {
        MileRoad x = new MileRoad();
        DUE.due(3, "erase() of nothing", 0, x.erase());
        DUE.due(2, "write(0)", 1, x.write(0));
        DUE.due(2, "write(255)", 2, x.write(255));
        DUE.due(2, "write(-1)", MileRoad.OUTSIDE, x.write(-1));
        DUE.due(2, "write(256)", MileRoad.OUTSIDE, x.write(256));
        DUE.due(26, "count(8)", 2, x.count(8));
        DUE.due(3, "erase()", 2, x.erase());
        DUE.due(3, "erase() again", 0, x.erase());
        for (int i = 1; i <= 160; i++) {
            DUE.due(2, "write(32), " + i, i, x.write(' '));
        }
        DUE.due(2, "write(32) of the 161st", MileRoad.FULL, x.write(' '));
        DUE.due(2, "write(256) of the 161st", MileRoad.OUTSIDE, x.write(256));
        DUE.due(26, "count(8)", 160, x.count(8));
        DUE.due(4, "fault() of 160 blanks", 160, x.fault());
        DUE.due(3, "erase()", 160, x.erase());
        DUE.due(2, "write(97) behind it", 1, x.write('a'));
    }

    private static void fault(String text, int place) {
        MileRoad x = new MileRoad();
        Due.write(x, text);
        DUE.due(4, "fault() of \"" + text + "\"", place, x.fault());
        DUE.due(4, "fault() of \"" + text + "\" again", place, x.fault());
        DUE.due(4, "letters of \"" + text + "\" behind fault()", text.length(), x.count(8));
        if (place != MileRoad.NONE) {
            DUE.due(5, "road() of \"" + text + "\"", MileRoad.NOT, x.road());
            DUE.due(5, "letters of \"" + text + "\" behind road()", text.length(), x.count(8));
            DUE.due(5, "steps behind \"" + text + "\"", 12, x.count(0));
            DUE.due(5, "all hard behind \"" + text + "\"", 36, x.count(4));
            DUE.due(5, "walkers behind \"" + text + "\"", 0, x.count(1));
        }
    }

    private static void faultsOfNumbers() {
        fault("road 3", 5);
        fault("road 4", MileRoad.NONE);
        fault("road 20", MileRoad.NONE);
        fault("road 21", 5);
        fault("road 04", MileRoad.NONE);
        fault("road 004", 5);
        fault("road 4294967300", 5);
        fault("hill 0 1 1", 5);
        fault("hill 1 1 1", MileRoad.NONE);
        fault("hill 12 12 9", MileRoad.NONE);
        fault("hill 13 13 1", 5);
        fault("hill 5 4 1", 7);
        fault("hill 5 13 1", 7);
        fault("hill 5 12 0", 10);
        fault("hill 5 12 10", 10);
        fault("hill 5 12 09", MileRoad.NONE);
        fault("hill 5 12 009", 10);
        fault("mile 0", 5);
        fault("mile 00", 5);
        fault("mile 1", MileRoad.NONE);
        fault("mile 40", MileRoad.NONE);
        fault("mile 41", 5);
        for (String kind : new String[] {"steady", "old", "drunk", "back"}) {
            fault(kind + " 0", kind.length() + 1);
            fault(kind + " 1", MileRoad.NONE);
            fault(kind + " 9", MileRoad.NONE);
            fault(kind + " 10", kind.length() + 1);
        }
    }

    private static void faultsOfWords() {
        fault("inn", 0);
        fault("roads 12", 0);
        fault("roa 12", 0);
        fault("Road 12", 0);
        fault("roadA 12", 4);
        fault("12", 0);
        fault(";", 0);
        fault(";nobody", 0);
        fault("mile mile 10", 5);
        fault("mile ;", 5);
        fault("hill 1 2;", 8);
        fault("hill 1 old 3", 7);
        fault("nobody 5", 7);
        fault("nobody5", 6);
        fault("nobodya", 0);
        fault("nobodyz", 0);
        fault("nobody`", 6);
        fault("nobody{", 6);
        fault("nobody;mile/", 11);
        fault("nobody;mile:", 11);
        fault("nobody nobody", 7);
        fault("mile 10 10", 8);
        fault("road 12 mile 10", 8);
        fault("nobody;;nobody", 7);
        fault("nobody,nobody", 6);
        fault("mile\t5", 4);
        fault("nobody;\u00e9", 7);
        fault("walker 3", 0);
        fault("nobody.", 6);
    }

    private static void faultsOfEnds() {
        fault("", 0);
        fault("   ", 3);
        fault("nobody;", 7);
        fault("nobody; ", 8);
        fault("road", 4);
        fault("road ", 5);
        fault("hill 1", 6);
        fault("hill 1 2", 8);
        fault("hill 1 2  ", 10);
        fault("mile", 4);
        fault("steady", 6);
    }

    private static void blanksAndTokens() {
        fault("  mile  7  ;  nobody  ", MileRoad.NONE);
        fault("mile7;hill1 2 3;old5", MileRoad.NONE);
        fault("hill12 3", 7);
        fault("hill12 12 3", MileRoad.NONE);
        fault("hill1212 3", 4);
        fault("mile1 0", 6);
        fault("no body", 0);
    }

    private static void boundsThatTheTextMoves() {
        fault("road 20;hill 13 20 9", MileRoad.NONE);
        fault("hill 13 20 9;road 20", 5);
        fault("road 5;hill 6 6 1", 12);
        fault("road 5;hill 5 6 1", 14);
        fault("road 5;road 20;hill 20 20 1", MileRoad.NONE);
        MileRoad x = Due.told("road 7");
        DUE.due(4, "fault() of hill 7 7 1 on 7 steps", MileRoad.NONE, Due.faultOf(x, "hill 7 7 1"));
        DUE.due(4, "fault() of hill 8 8 1 on 7 steps", 5, Due.faultOf(x, "hill 8 8 1"));
        Due.tell(erased(x), "road 15");
        DUE.due(4, "fault() of hill 8 15 1 on 15 steps", MileRoad.NONE, Due.faultOf(x, "hill 8 15 1"));
    }

    private static MileRoad erased(MileRoad x) {
        x.erase();
        return x;
    }

    private static void fourteenClauses() {
        String fourteen = "mile 1;mile 2;mile 3;mile 4;mile 5;mile 6;mile 7;mile 8;mile 9;"
            + "mile 10;mile 11;mile 12;mile 13;mile 14";
        fault(fourteen, MileRoad.NONE);
        fault(fourteen + " ", MileRoad.NONE);
        fault(fourteen + ";", fourteen.length());
        fault(fourteen + " ; mile 15", fourteen.length() + 1);
        fault(fourteen + " old", fourteen.length() + 1);
        MileRoad x = new MileRoad();
        Due.write(x, fourteen);
        DUE.due(5, "road() of fourteen", 14, x.road());
        DUE.due(5, "the mile of fourteen", 14, x.count(2));
    }

    private static void sevenWalkers() {
        String six = "old 1;old 2;back 3;drunk 4;steady 5;old 6";
        fault(six, MileRoad.NONE);
        fault(six + ";old 7", six.length() + 1);
        fault(six + "; steady", six.length() + 2);
        fault(six + ";inn", six.length() + 1);
        fault(six + ";nobody;old 7", MileRoad.NONE);
        fault(six + ";road 9;old 7", MileRoad.NONE);
        fault(six + ";mile 9;old 7", six.length() + 8);
        MileRoad x = Due.told(six);
        DUE.due(4, "fault() of a seventh in a second text", 0, Due.faultOf(x, "back 1"));
        DUE.due(5, "road() of a seventh in a second text", MileRoad.NOT, x.road());
        DUE.due(4, "fault() of nobody and one", MileRoad.NONE, Due.faultOf(x, "nobody;back 1"));
        DUE.due(5, "road() of nobody and one", 2, x.road());
        DUE.due(5, "walkers", 1, x.count(1));
        DUE.due(5, "kind", 3, x.walker(0, 0));
    }

    private static void whatATextTells() {
        MileRoad x = Due.told("road 6; hill 2 4 7; hill 4 5 1; mile 8; steady 2; old 3; drunk 4; back 5");
        int[] hard = {3, 7, 7, 1, 1, 3};
        for (int step = 1; step <= 6; step++) {
            DUE.due(5, "step(" + step + ")", hard[step - 1], x.step(step));
        }
        DUE.due(5, "count(0)", 6, x.count(0));
        DUE.due(5, "count(2)", 8, x.count(2));
        DUE.due(5, "count(8)", 0, x.count(8));
        for (int walker = 0; walker < 4; walker++) {
            DUE.due(5, "kind of " + walker, walker, x.walker(walker, 0));
            DUE.due(5, "habit of " + walker, walker + 2, x.walker(walker, 1));
        }
        Due.tell(x, "old 9");
        DUE.due(5, "walkers, one more", 5, x.count(1));
        DUE.due(5, "steps of an earlier text stay", 6, x.count(0));
        DUE.due(5, "the mile of an earlier text stays", 8, x.count(2));
        DUE.due(5, "hills of an earlier text stay", 22, x.count(4));
        Due.tell(x, "nobody");
        DUE.due(5, "walkers behind nobody", 0, x.count(1));
        DUE.due(5, "the mile behind nobody", 8, x.count(2));
        Due.tell(x, "old 1; road 8");
        DUE.due(5, "walkers behind road", 0, x.count(1));
        DUE.due(5, "the mile behind road", 10, x.count(2));
        DUE.due(5, "all hard behind road", 24, x.count(4));
    }

    private static void whatATextEnds() {
        MileRoad x = Due.told("road 6; hill 2 2 5; mile 8; steady 2; old 3");
        x.walks(0, 1);
        x.flatten(2, 1);
        x.flatten(3, 9);
        x.mile(20);
        x.seen(1, 2, 3);
        x.keep(0);
        x.keep(1);
        Due.write(x, "old");
        DUE.due(5, "road() with a fault", MileRoad.NOT, x.road());
        DUE.due(5, "nothing is as told yet", 9, x.step(3));
        DUE.due(5, "the mile yet", 20, x.count(2));
        DUE.due(5, "walked yet", 1, x.count(3));
        DUE.due(5, "seen yet", 1, x.count(6));
        DUE.due(5, "undone yet", 4, x.count(7));
        DUE.due(5, "kept yet", 1, x.back(0));
        x.mile(21);
        x.erase();
        Due.tell(x, "old 4");
        DUE.due(5, "walkers", 3, x.count(1));
        DUE.due(5, "step(2) as told", 5, x.step(2));
        DUE.due(5, "step(3) as told", 3, x.step(3));
        DUE.due(5, "the mile as told", 8, x.count(2));
        DUE.due(5, "nobody has walked", 0, x.count(3));
        DUE.due(5, "nothing is seen", 0, x.count(6));
        DUE.due(5, "nothing can be undone", 0, x.count(7));
        DUE.due(5, "undo()", MileRoad.NOT, x.undo());
        DUE.due(5, "nothing is kept (0)", MileRoad.NOT, x.back(0));
        DUE.due(5, "nothing is kept (1)", MileRoad.NOT, x.back(1));
    }
}
