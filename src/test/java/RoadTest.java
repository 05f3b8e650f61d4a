/** Promise 5: road, and what a TEXT tells. */
public final class RoadTest {
    public static void main(String[] args) throws IllegalAccessException {
        Due.runAll(RoadTest.class);
    }

    private static void hard(Due due, MileRoad x, int... hard) {
        due.is("count(0)", hard.length, x.count(0));
        for (int step = 1; step <= hard.length; step++) {
            due.is("step(" + step + ")", hard[step - 1], x.step(step));
        }
    }

    // ---- the answer

    @Says("how many there were")
    static void p05OneClause(Due due) {
        due.is("road() of one", 1, Roads.written("nobody").road());
    }

    @Says({"how many there were", "1 to 14"})
    static void p05FourteenClauses(Due due) {
        MileRoad x = Roads.written("mile 1;mile 2;mile 3;mile 4;mile 5;mile 6;mile 7;mile 8;mile 9;mile 10;mile 11;"
            + "mile 12;mile 13;mile 14");
        due.is("road() of fourteen", 14, x.road());
        due.is("count(2)", 14, x.count(2));
    }

    @Says("160 at most")
    static void p05OfTheLongestText(Due due) {
        MileRoad x = Roads.written(Roads.LONGEST);
        due.is("count(8)", 160, x.count(8));
        due.is("road()", 14, x.road());
        hard(due, x, 9, 8, 7, 6, 5, 4, 3, 2, 1, 1, 1, 1);
        due.is("count(2)", 12, x.count(2));
        due.is("count(1)", 3, x.count(1));
        due.is("count(8) behind it", 0, x.count(8));
    }

    @Says("and it is empty then")
    static void p05TheTextIsEmptyThen(Due due) {
        MileRoad x = Roads.told("mile 7");
        due.is("count(8)", 0, x.count(8));
        due.is("road() again", MileRoad.NOT, x.road());
        due.is("erase()", 0, x.erase());
        due.is("write(97)", 1, x.write('a'));
    }

    @Says({"NOT: it has a FAULT.", "Refused, and nothing changes", "NOT (not now: as told)"})
    static void p05NotWithAFault(Due due) {
        for (String text : new String[] {"road 7;inn", "hill 1 6 9;mile 41", "mile 7;", "nobody;old 1;old", "mile 8 8",
            "old 8;", "road 21"}) {
            due.refused(MileRoad.NOT, () -> someWith(text), "road() of " + text, MileRoad::road);
        }
    }

    @Says({"NOT: it has a FAULT.", "an empty TEXT ends too soon"})
    static void p05NotOfAnEmptyText(Due due) {
        due.refused(MileRoad.NOT, MileRoad::new, "road() of nothing", MileRoad::road);
        due.refused(MileRoad.NOT, () -> someWith(""), "road() of nothing", MileRoad::road);
        due.refused(MileRoad.NOT, () -> someWith("   "), "road() of blanks", MileRoad::road);
    }

    @Says({"NOT: it has a FAULT.", "a seventh cannot stand there"})
    static void p05NotOfASeventhWalker(Due due) {
        due.refused(MileRoad.NOT, Roads::full, "road() of a seventh walker", MileRoad::road);
    }

    @Says("NOT: it has a FAULT.")
    static void p05NotOfAFifteenthClause(Due due) {
        due.refused(MileRoad.NOT, () -> someWith("mile 1;mile 2;mile 3;mile 4;mile 5;mile 6;mile 7;mile 8;mile 9;"
            + "mile 10;mile 11;mile 12;mile 13;mile 14;mile 15"), "road() of fifteen", MileRoad::road);
    }

    private static MileRoad someWith(String text) {
        MileRoad x = Roads.some();
        x.erase();
        Roads.write(x, text);
        return x;
    }

    // ---- what each clause tells

    @Says({"THE TEXT's CLAUSES are done", "road: N STEPS, each HARD by 3"})
    static void p05ARoadOf4(Due due) {
        MileRoad x = Roads.told("hill 1 12 9;road 4");
        hard(due, x, 3, 3, 3, 3);
        due.is("step(5)", MileRoad.OUTSIDE, x.step(5));
        due.is("count(4)", 12, x.count(4));
    }

    @Says({"THE TEXT's CLAUSES are done", "road: N STEPS, each HARD by 3"})
    static void p05ARoadOf20(Due due) {
        MileRoad x = Roads.told("hill 1 12 9;road 20");
        hard(due, x, 3, 3, 3, 3, 3, 3, 3, 3, 3, 3, 3, 3, 3, 3, 3, 3, 3, 3, 3, 3);
        due.is("step(21)", MileRoad.OUTSIDE, x.step(21));
        due.is("count(4)", 60, x.count(4));
    }

    @Says("each HARD by 3")
    static void p05ARoadThatWasShorterBetween(Due due) {
        MileRoad x = Roads.told("road 8;hill 5 8 9");
        Roads.tell(x, "road 4");
        Roads.tell(x, "road 8");
        hard(due, x, 3, 3, 3, 3, 3, 3, 3, 3);
    }

    @Says("a MILE is 10")
    static void p05ARoadMakesTheMile10(Due due) {
        MileRoad x = Roads.told("mile 40");
        Roads.tell(x, "road 5");
        due.is("count(2)", 10, x.count(2));
        Roads.tell(x, "mile 7;road 5");
        due.is("count(2) in one text", 10, x.count(2));
        Roads.tell(x, "road 5;mile 7");
        due.is("count(2) by a mile behind it", 7, x.count(2));
    }

    @Says("a MILE is 10, no WALKERS")
    static void p05ARoadLeavesNoWalkers(Due due) {
        MileRoad x = Roads.told(Roads.FOUR);
        Roads.tell(x, "road 6");
        due.is("count(1)", 0, x.count(1));
        due.is("walker(0, 0)", MileRoad.UNKNOWN, x.walker(0, 0));
        Roads.tell(x, "old 5;road 6;back 7");
        due.is("count(1) in one text", 1, x.count(1));
        due.is("walker(0, 0)", 3, x.walker(0, 0));
        due.is("walker(0, 1)", 7, x.walker(0, 1));
    }

    @Says({"hill: STEPS A .. B", "are HARD by H"})
    static void p05AHillOfOneStep(Due due) {
        hard(due, Roads.told("road 5;hill 1 1 9"), 9, 3, 3, 3, 3);
        hard(due, Roads.told("road 5;hill 3 3 1"), 3, 3, 1, 3, 3);
        hard(due, Roads.told("road 5;hill 5 5 9"), 3, 3, 3, 3, 9);
    }

    @Says({"hill: STEPS A .. B", "are HARD by H"})
    static void p05AHillOfSomeSteps(Due due) {
        hard(due, Roads.told("road 6;hill 2 4 8"), 3, 8, 8, 8, 3, 3);
        hard(due, Roads.told("road 4;hill 1 2 4"), 4, 4, 3, 3);
        hard(due, Roads.told("road 4;hill 3 4 2"), 3, 3, 2, 2);
    }

    @Says({"hill: STEPS A .. B", "are HARD by H"})
    static void p05AHillOfAllSteps(Due due) {
        hard(due, Roads.told("road 4;hill 1 4 1"), 1, 1, 1, 1);
        MileRoad x = Roads.told("road 20;hill 1 20 9");
        due.is("step(1)", 9, x.step(1));
        due.is("step(20)", 9, x.step(20));
        due.is("count(4)", 180, x.count(4));
    }

    @Says("mile M.")
    static void p05AMileOf1And40(Due due) {
        due.is("count(2)", 1, Roads.told("mile 1").count(2));
        due.is("count(2)", 40, Roads.told("mile 40").count(2));
        due.is("count(2)", 9, Roads.told("mile 09").count(2));
    }

    @Says("steady ..: a WALKER more with HABIT H")
    static void p05AWalkerOfEachKind(Due due) {
        String[] words = {"steady", "old", "drunk", "back"};
        for (int kind = 0; kind < 4; kind++) {
            for (int habit = 1; habit <= 9; habit += 8) {
                MileRoad x = Roads.told(words[kind] + " " + habit);
                due.is("count(1)", 1, x.count(1));
                due.is("walker(0, 0) of " + words[kind], kind, x.walker(0, 0));
                due.is("walker(0, 1) of " + words[kind], habit, x.walker(0, 1));
            }
        }
    }

    @Says("WALKERS are 0, 1 .. as they come, 6 at most")
    static void p05SixAsTheyCome(Due due) {
        MileRoad x = Roads.told(Roads.FIVE_WALKERS);
        Roads.tell(x, "back 9");
        int[] kinds = {1, 1, 3, 2, 0, 3};
        int[] habits = {1, 2, 3, 4, 5, 9};
        due.is("count(1)", 6, x.count(1));
        for (int walker = 0; walker < 6; walker++) {
            due.is("walker(" + walker + ", 0)", kinds[walker], x.walker(walker, 0));
            due.is("walker(" + walker + ", 1)", habits[walker], x.walker(walker, 1));
        }
        due.is("walker(6, 0)", MileRoad.UNKNOWN, x.walker(6, 0));
    }

    @Says("nobody: no WALKERS")
    static void p05NobodyLeavesTheRoad(Due due) {
        MileRoad x = Roads.told("road 5;hill 2 2 7;mile 9;" + Roads.FIVE_WALKERS);
        Roads.tell(x, "nobody");
        due.is("count(1)", 0, x.count(1));
        due.is("walker(0, 0)", MileRoad.UNKNOWN, x.walker(0, 0));
        due.is("count(2)", 9, x.count(2));
        hard(due, x, 3, 7, 3, 3, 3);
        Roads.tell(x, "nobody");
        due.is("count(1) behind nobody again", 0, x.count(1));
    }

    @Says("CLAUSES are done in their order.")
    static void p05InTheirOrder(Due due) {
        MileRoad x = Roads.told("mile 8;mile 7;road 4;hill 1 3 5;hill 2 4 6;hill 3 3 7;mile 5;mile 6");
        hard(due, x, 5, 6, 7, 6);
        due.is("count(2)", 6, x.count(2));
        Roads.tell(x, "steady 1;nobody;old 2");
        due.is("count(1)", 1, x.count(1));
        due.is("walker(0, 0)", 1, x.walker(0, 0));
        due.is("count(1) behind nobody", 0, Roads.told("steady 1;nobody").count(1));
    }

    @Says("what earlier texts told stays")
    static void p05EarlierTextsStay(Due due) {
        MileRoad x = Roads.told("road 5;hill 2 2 7;mile 9;old 4");
        Roads.tell(x, "hill 4 4 1");
        Roads.tell(x, "back 5");
        hard(due, x, 3, 7, 3, 1, 3);
        due.is("count(2)", 9, x.count(2));
        due.is("count(1)", 2, x.count(1));
        due.is("walker(0, 0)", 1, x.walker(0, 0));
        due.is("walker(0, 1)", 4, x.walker(0, 1));
        due.is("walker(1, 0)", 3, x.walker(1, 0));
    }

    // ---- what is behind a text

    @Says("Behind them all is as told (STEPS")
    static void p05StepsAreAsTold(Due due) {
        MileRoad x = Roads.told("road 5;hill 2 2 7;hill 5 5 9");
        for (int step = 1; step <= 5; step++) {
            x.flatten(step, 1);
        }
        Roads.tell(x, "hill 5 5 8");
        hard(due, x, 3, 7, 3, 3, 8);
    }

    @Says("the MILE, however they were)")
    static void p05TheMileIsAsTold(Due due) {
        MileRoad x = Roads.told("mile 9");
        x.mile(30);
        Roads.tell(x, "hill 1 1 4");
        due.is("count(2)", 9, x.count(2));
        MileRoad y = new MileRoad();
        y.mile(30);
        Roads.tell(y, "nobody");
        due.is("count(2) of no text yet", 10, y.count(2));
    }

    @Says("however they were)")
    static void p05AsToldBehindWhatWasKept(Due due) {
        MileRoad x = Roads.told("road 4;hill 2 2 7;mile 9");
        x.flatten(2, 1);
        x.mile(20);
        x.keep(0);
        x.flatten(3, 2);
        x.back(0);
        x.undo();
        Roads.tell(x, "old 1");
        hard(due, x, 3, 7, 3, 3);
        due.is("count(2)", 9, x.count(2));
    }

    @Says("nobody has WALKED")
    static void p05NobodyHasWalked(Due due) {
        MileRoad x = Roads.walked(Roads.FOUR, 0, 3);
        Roads.tell(x, "mile 5");
        due.is("count(3)", 0, x.count(3));
        due.is("walker(0, 2)", 0, x.walker(0, 2));
        due.is("walker(3, 2)", 0, x.walker(3, 2));
        due.is("law(1, 0)", MileRoad.NONE, x.law(1, 0));
    }

    @Says("nothing is SEEN")
    static void p05NothingIsSeen(Due due) {
        MileRoad x = Roads.full();
        x.erase();
        Roads.tell(x, "mile 5");
        due.is("count(6)", 0, x.count(6));
        due.is("what(1)", 15, x.what(1));
        due.is("seen(0, 1, 1)", 1, x.seen(0, 1, 1));
    }

    @Says("nothing is kept")
    static void p05NothingIsKept(Due due) {
        MileRoad x = Roads.full();
        x.erase();
        Roads.tell(x, "mile 5");
        due.is("back(0)", MileRoad.NOT, x.back(0));
        due.is("back(1)", MileRoad.NOT, x.back(1));
    }

    @Says("or can be undone")
    static void p05NothingCanBeUndone(Due due) {
        MileRoad x = Roads.full();
        x.erase();
        Roads.tell(x, "mile 5");
        due.is("count(7)", 0, x.count(7));
        due.is("undo()", MileRoad.NOT, x.undo());
        x.mile(6);
        due.is("undo() of one", 0, x.undo());
        due.is("count(2)", 5, x.count(2));
    }
}
