/** Promise 4: fault, and what a TEXT may be. */
public final class FaultTest {
    private static final String[] KINDS = {"steady", "old", "drunk", "back"};

    public static void main(String[] args) throws IllegalAccessException {
        Due.runAll(FaultTest.class);
    }

    private static void fault(Due due, String text, int place) {
        MileRoad x = Roads.written(text);
        due.is("fault() of \"" + text + "\"", place, x.fault());
        due.is("whether road() takes it", place == MileRoad.NONE ? 1 : 0, x.road() == MileRoad.NOT ? 0 : 1);
    }

    private static void sound(Due due, String... texts) {
        for (String text : texts) {
            fault(due, text, MileRoad.NONE);
        }
    }

    // ---- the answer

    @Says("NONE")
    static void p04None(Due due) {
        sound(due, "nobody", Roads.FOUR, Roads.LONGEST);
    }

    @Says("The place of the FAULT (the letter with which the TOKEN begins")
    static void p04TheLetterWithWhichTheTokenBegins(Due due) {
        fault(due, "inn", 0);
        fault(due, "  inn", 2);
        fault(due, "mile   414", 7);
        fault(due, "mile 4  ;   inn 5", 12);
    }

    @Says({"or the length", "or at the end, if it comes too soon"})
    static void p04OrTheLength(Due due) {
        fault(due, "mile", 4);
        fault(due, "mile  ", 6);
        fault(due, "  mile", 6);
    }

    @Says("The place of the FAULT")
    static void p04ChangesNothing(Due due) {
        due.changesNothing(Roads::some, "fault() of none", MileRoad::fault);
        due.changesNothing(Roads::full, "fault() of the seventh", MileRoad::fault);
        due.changesNothing(() -> Roads.written("mile 7;inn"), "fault() behind a sound clause", MileRoad::fault);
        MileRoad x = Roads.written("mile 7;inn");
        due.is("fault()", 7, x.fault());
        due.is("fault() again", 7, x.fault());
        due.is("count(8)", 10, x.count(8));
    }

    // ---- clauses and what is between them

    @Says({"an empty TEXT ends too soon", "1 to 14"})
    static void p04AnEmptyText(Due due) {
        fault(due, "", 0);
        fault(due, " ", 1);
        MileRoad x = Roads.told("mile 4");
        due.is("fault() behind a text that is done", 0, x.fault());
    }

    @Says("or at the end, if it comes too soon")
    static void p04AFullTextOfBlanks(Due due) {
        fault(due, " ".repeat(160), 160);
    }

    @Says("1 to 14")
    static void p04OneClause(Due due) {
        sound(due, "nobody", "mile 9");
    }

    @Says({"CLAUSES with ; between, 1 to 14", "behind the 14th no ; can stand"})
    static void p04FourteenClauses(Due due) {
        sound(due, clauses(13), clauses(14), clauses(14) + " ");
    }

    @Says("behind the 14th no ; can stand")
    static void p04NoSemicolonBehindTheFourteenth(Due due) {
        String fourteen = clauses(14);
        fault(due, fourteen + ";", fourteen.length());
        fault(due, fourteen + " ;mile 5", fourteen.length() + 1);
        fault(due, fourteen + "; ;", fourteen.length());
        fault(due, clauses(13) + ";", clauses(13).length() + 1);
    }

    @Says("1 to 14")
    static void p04NothingElseBehindTheFourteenth(Due due) {
        String fourteen = clauses(14);
        fault(due, fourteen + " mile 5", fourteen.length() + 1);
        fault(due, fourteen + " 5", fourteen.length() + 1);
    }

    @Says("CLAUSES with ; between")
    static void p04ASemicolonBetween(Due due) {
        fault(due, "nobody;;nobody", 7);
        fault(due, "nobody,nobody", 6);
        fault(due, "nobody:nobody", 6);
        fault(due, "nobody mile 5", 7);
        fault(due, "mile 5 mile 5", 7);
        fault(due, "mile 5 5", 7);
        fault(due, ";nobody", 0);
        fault(due, ";", 0);
    }

    @Says("CLAUSES with ; between")
    static void p04NoneAtTheEnd(Due due) {
        fault(due, "nobody;", 7);
        fault(due, "nobody ; ", 9);
    }

    private static String clauses(int many) {
        StringBuilder text = new StringBuilder("mile 1");
        for (int i = 2; i <= many; i++) {
            text.append(";mile ").append(i);
        }
        return text.toString();
    }

    // ---- the clauses

    @Says("each is one of: road N. hill A B H. mile M. steady H. old H. drunk H. back H. nobody.")
    static void p04EachIsOneOf(Due due) {
        sound(due, "road 12", "hill 1 2 3", "mile 4", "steady 5", "old 6", "drunk 7", "back 8", "nobody");
    }

    @Says({"each is one of", "As written here"})
    static void p04NoOtherWord(Due due) {
        for (String word : new String[] {"road", "hill", "mile", "steady", "old", "drunk", "back", "nobody"}) {
            fault(due, word.substring(1) + " 5 5 5", 0);
            fault(due, word.substring(0, word.length() - 1) + " 5 5 5", 0);
            fault(due, word + "s 5 5 5", 0);
            fault(due, word.substring(0, 1).toUpperCase() + word.substring(1) + " 5 5 5", 0);
        }
        fault(due, "walker 5", 0);
        fault(due, "12", 0);
    }

    @Says("without points")
    static void p04WithoutPoints(Due due) {
        fault(due, "road 12.", 7);
        fault(due, "nobody.", 6);
        fault(due, "mile.5", 4);
    }

    @Says("each is one of: road N. hill A B H. mile M.")
    static void p04NoNumberMoreNoNumberLess(Due due) {
        fault(due, "road 12 12", 8);
        fault(due, "hill 1 2 3 4", 11);
        fault(due, "hill 1 2;", 8);
        fault(due, "hill 1 old 2", 7);
        fault(due, "mile mile 5", 5);
        fault(due, "old 5 5", 6);
        fault(due, "nobody 5", 7);
    }

    @Says({"THE ROAD has STEPS 1 .. n (n 4 .. 20", "road: N STEPS"})
    static void p04ARoadOf4(Due due) {
        sound(due, "road 4");
    }

    @Says("THE ROAD has STEPS 1 .. n (n 4 .. 20")
    static void p04ARoadOf3(Due due) {
        fault(due, "road 3", 5);
        fault(due, "road 0", 5);
    }

    @Says("THE ROAD has STEPS 1 .. n (n 4 .. 20")
    static void p04ARoadOf20(Due due) {
        sound(due, "road 20");
    }

    @Says("THE ROAD has STEPS 1 .. n (n 4 .. 20")
    static void p04ARoadOf21(Due due) {
        fault(due, "road 21", 5);
        fault(due, "road 99", 5);
    }

    @Says("STEPS A .. B (1 .. n")
    static void p04AHillFromTheFirstStep(Due due) {
        sound(due, "hill 1 1 5", "hill 1 12 5");
        fault(due, "hill 0 1 5", 5);
    }

    @Says("STEPS A .. B (1 .. n")
    static void p04AHillFromTheLastStep(Due due) {
        sound(due, "hill 12 12 5");
        fault(due, "hill 13 13 5", 5);
        fault(due, "hill 13 12 5", 5);
    }

    @Says("A .. n)")
    static void p04AHillToItsFirstStep(Due due) {
        sound(due, "hill 5 5 5");
        fault(due, "hill 5 4 5", 7);
        fault(due, "hill 5 0 5", 7);
    }

    @Says("A .. n)")
    static void p04AHillToTheLastStep(Due due) {
        sound(due, "hill 5 12 5");
        fault(due, "hill 5 13 5", 7);
        fault(due, "hill 12 13 5", 8);
    }

    @Says("each HARD by 1 .. 9")
    static void p04AHillHardBy1To9(Due due) {
        sound(due, "hill 5 6 1", "hill 5 6 9");
    }

    @Says("each HARD by 1 .. 9")
    static void p04AHillHardBy0(Due due) {
        fault(due, "hill 5 6 0", 9);
    }

    @Says("each HARD by 1 .. 9")
    static void p04AHillHardBy10(Due due) {
        fault(due, "hill 5 6 10", 9);
    }

    @Says("(1 .. n, A .. n)")
    static void p04TheStepsAsTheTextTellsThem(Due due) {
        sound(due, "road 20;hill 13 20 5", "road 4;hill 4 4 5", "road 4;road 20;hill 20 20 5");
        fault(due, "road 4;hill 5 5 5", 12);
        fault(due, "road 4;hill 4 5 5", 14);
        fault(due, "road 20;hill 20 21 5", 16);
        fault(due, "hill 13 20 5;road 20", 5);
    }

    @Says("A MILE is 1 .. 40")
    static void p04AMileOf1(Due due) {
        sound(due, "mile 1");
    }

    @Says("A MILE is 1 .. 40")
    static void p04AMileOf0(Due due) {
        fault(due, "mile 0", 5);
        fault(due, "mile 00", 5);
    }

    @Says("A MILE is 1 .. 40")
    static void p04AMileOf40(Due due) {
        sound(due, "mile 40");
    }

    @Says("A MILE is 1 .. 40")
    static void p04AMileOf41(Due due) {
        fault(due, "mile 41", 5);
        fault(due, "mile 99", 5);
    }

    @Says("with a HABIT (1 .. 9)")
    static void p04AHabitOf1To9(Due due) {
        for (String kind : KINDS) {
            sound(due, kind + " 1", kind + " 9");
        }
    }

    @Says("with a HABIT (1 .. 9)")
    static void p04AHabitOf0(Due due) {
        for (String kind : KINDS) {
            fault(due, kind + " 0", kind.length() + 1);
        }
    }

    @Says("with a HABIT (1 .. 9)")
    static void p04AHabitOf10(Due due) {
        for (String kind : KINDS) {
            fault(due, kind + " 10", kind.length() + 1);
        }
    }

    // ---- six walkers

    @Says("WALKERS are 0, 1 .. as they come, 6 at most")
    static void p04ASixthWalker(Due due) {
        for (String kind : KINDS) {
            sound(due, Roads.FIVE_WALKERS + ";" + kind + " 1");
        }
    }

    @Says("a seventh cannot stand there (at its word)")
    static void p04ASeventhAtItsWord(Due due) {
        String six = Roads.FIVE_WALKERS + ";old 6";
        for (String kind : KINDS) {
            fault(due, six + "; " + kind + " 1", six.length() + 2);
            fault(due, six + ";" + kind, six.length() + 1);
            fault(due, six + ";" + kind + " 10", six.length() + 1);
        }
    }

    @Says({"a seventh cannot stand there", "what earlier texts told stays"})
    static void p04ASeventhOfTwoTexts(Due due) {
        MileRoad x = Roads.told(Roads.FIVE_WALKERS);
        Roads.write(x, "back 1");
        due.is("fault() of a sixth", MileRoad.NONE, x.fault());
        Roads.write(x, ";mile 7; back 1");
        due.is("fault() of a seventh", 15, x.fault());
        due.is("road() of a seventh", MileRoad.NOT, x.road());
        due.is("count(1)", 5, x.count(1));
    }

    @Says({"nobody: no WALKERS", "a seventh cannot stand there"})
    static void p04SixMoreBehindNobody(Due due) {
        String six = Roads.FIVE_WALKERS + ";old 6";
        sound(due, six + ";nobody;" + six);
        fault(due, six + ";nobody;" + six + ";old 1", 2 * six.length() + 9);
        MileRoad x = Roads.told(six);
        Roads.write(x, "nobody;old 1");
        due.is("fault() in a second text", MileRoad.NONE, x.fault());
    }

    @Says({"a MILE is 10, no WALKERS", "a seventh cannot stand there"})
    static void p04SixMoreBehindARoad(Due due) {
        String six = Roads.FIVE_WALKERS + ";old 6";
        sound(due, six + ";road 12;" + six);
        fault(due, six + ";mile 12;old 7", six.length() + 9);
    }

    // ---- tokens

    @Says("small letters a .. z")
    static void p04WordsAreOfLettersAToZ(Due due) {
        fault(due, "nobodya", 0);
        fault(due, "nobodyz", 0);
        fault(due, "nobody`", 6);
        fault(due, "nobody{", 6);
        fault(due, "nobodyA", 6);
        fault(due, "nobody_", 6);
    }

    @Says("small letters a .. z, numbers of 1 or 2 digits, blanks (32)")
    static void p04EachLetterIsItself(Due due) {
        for (int letter = 0; letter <= 255; letter++) {
            MileRoad x = new MileRoad();
            x.write(letter);
            Roads.write(x, "ld 1");
            due.is("fault() with " + letter + " ahead of ld 1", letter == 'o' ? MileRoad.NONE : letter == ' ' ? 1 : 0,
                x.fault());
            MileRoad y = Roads.written("mile 1");
            y.write(letter);
            boolean digit = letter >= '0' && letter <= '9';
            due.is("fault() with " + letter + " behind mile 1",
                digit || letter == ' ' ? MileRoad.NONE : letter == ';' ? 7 : 6, y.fault());
        }
    }

    @Says("numbers of 1 or 2 digits")
    static void p04NumbersOf1Or2Digits(Due due) {
        sound(due, "mile 7", "mile 07", "mile 10", "road 04", "hill 01 02 03", "old 09");
    }

    @Says("of more digits, also")
    static void p04NumbersOf3Digits(Due due) {
        fault(due, "mile 007", 5);
        fault(due, "mile 100", 5);
        fault(due, "road 012", 5);
        fault(due, "hill 001 2 3", 5);
        fault(due, "hill 1 002 3", 7);
        fault(due, "hill 1 2 003", 9);
        fault(due, "old 009", 4);
    }

    @Says("of more digits, also")
    static void p04NumbersBeyondAnInt(Due due) {
        fault(due, "mile 4294967306", 5);
        fault(due, "mile 18446744073709551626", 5);
        fault(due, "mile " + "0".repeat(153) + "10", 5);
    }

    @Says("a row of digits")
    static void p04DigitsAre0To9(Due due) {
        fault(due, "mile /", 5);
        fault(due, "mile :", 5);
        fault(due, "mile 1/", 6);
        fault(due, "mile 1:", 6);
        sound(due, "mile 10", "mile 19");
    }

    @Says("blanks (32) may stand ahead of, between and behind TOKENS")
    static void p04BlanksAheadBetweenAndBehind(Due due) {
        sound(due, " nobody", "nobody ", "   mile   7   ;   nobody   ", " hill  1  2  3 ");
        fault(due, "no body", 0);
        fault(due, "mile 1 0", 7);
    }

    @Says("blanks (32)")
    static void p04NoOtherLetterIsABlank(Due due) {
        for (int letter : new int[] {0, 9, 10, 13, 31, 33, 160, 255}) {
            MileRoad x = Roads.written("mile");
            x.write(letter);
            Roads.write(x, "7");
            due.is("fault() of letter " + letter + " between", 4, x.fault());
        }
    }

    @Says("none is needed")
    static void p04NoBlankIsNeeded(Due due) {
        sound(due, "mile7", "mile7;hill1 2 3;old5;nobody", "road12");
    }

    @Says("but between two words")
    static void p04ABlankBetweenTwoWords(Due due) {
        fault(due, "nobodynobody", 0);
        fault(due, "nobody nobody", 7);
    }

    @Says("two numbers")
    static void p04ABlankBetweenTwoNumbers(Due due) {
        fault(due, "hill 1 23", 7);
        fault(due, "hill 12 3", 8);
        fault(due, "hill 123", 5);
        sound(due, "hill 1 2 3");
    }

    // ---- the first fault

    @Says("A FAULT is at the first TOKEN (a row of small letters, a row of digits, any other letter)")
    static void p04TheFirstOfTwo(Due due) {
        fault(due, "mile 41; road 3", 5);
        fault(due, "inn inn", 0);
        fault(due, "hill 0 0 0", 5);
        fault(due, "hill 1 0 0", 7);
    }

    @Says("(a row of small letters")
    static void p04AtARowOfSmallLetters(Due due) {
        fault(due, "mile seven", 5);
        fault(due, "mile 7;seven", 7);
        fault(due, "mile7seven", 5);
    }

    @Says("a row of digits")
    static void p04AtARowOfDigits(Due due) {
        fault(due, "7777", 0);
        fault(due, "nobody;77", 7);
        fault(due, "nobody77", 6);
    }

    @Says("any other letter)")
    static void p04AtAnyOtherLetter(Due due) {
        fault(due, "mile --", 5);
        fault(due, "nobody ;;;", 8);
        fault(due, "nobody;\u00e9\u00e9", 7);
        fault(due, "mile -7", 5);
    }

    @Says({"that cannot stand there", "a number out of its bounds"})
    static void p04AtANumberOutOfItsBounds(Due due) {
        fault(due, "mile 4;road 44;mile 4", 12);
        fault(due, "steady 12", 7);
    }

    @Says("or at the end, if it comes too soon")
    static void p04TheEndInAClause(Due due) {
        for (String text : new String[] {"road", "hill", "hill 1", "hill 1 2", "mile", "steady", "old", "drunk",
            "back", "mile 7;old"}) {
            fault(due, text, text.length());
            fault(due, text + "  ", text.length() + 2);
        }
    }

    @Says("what earlier texts told stays")
    static void p04BoundsOfEarlierTexts(Due due) {
        MileRoad x = Roads.told("road 20");
        Roads.write(x, "hill 20 20 5");
        due.is("fault() at the last of 20 steps", MileRoad.NONE, x.fault());
        x.erase();
        Roads.tell(x, "road 4");
        Roads.write(x, "hill 4 5 5");
        due.is("fault() at the fifth of 4 steps", 7, x.fault());
    }

    @Says("160 at most")
    static void p04OfTheLongestText(Due due) {
        String text = Roads.LONGEST.trim();
        sound(due, Roads.LONGEST, " ".repeat(160 - text.length()) + text);
        fault(due, "mile 7" + " ".repeat(153) + ";", 160);
        fault(due, "mile 7" + " ".repeat(153) + "7", 159);
        fault(due, "mile" + " ".repeat(156), 160);
    }
}
