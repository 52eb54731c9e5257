/** Promise 7, block: each sentence that names a boundary, at it and one step beyond it. */
public final class Promise07BlockTest {
    private static final Check CHECK = new Check("Promise07BlockTest");

    public static void main(String[] args) {
        makesABlock();
        places();
        columns();
        gap();
        aPlaceForEachDot();
        xOfTheField();
        yOfTheField();
        eachPlaceOnTheField();
        returnsTheNumber();
        throwsArgument();
        throwsState();
        atMostTwelve();
        firstOfSeveralExceptions();
        CHECK.end();
    }

    private static void makesABlock() {
        CHECK.sentence("Promise 7: Makes a block.");
        DrillField field = Scenes.withDots(5);
        Scenes.places(CHECK, "two columns", field, field.block(100, 200, 2, 30), 100, 200, 130, 200, 100, 230, 130, 230,
                100, 260);
    }

    private static void places() {
        CHECK.sentence("Promise 7: BLOCK: columns and a gap: x and the gap times the rest of i by the columns, "
                + "y and the gap times i by the columns, rounded down.");
        DrillField field = Scenes.withDots(10);
        Scenes.places(CHECK, "three columns", field, field.block(100, 200, 3, 15), 100, 200, 115, 200, 130, 200,
                100, 215, 115, 215, 130, 215, 100, 230, 115, 230, 130, 230, 100, 245);
        Scenes.places(CHECK, "five columns", field, field.block(0, 0, 5, 7), 0, 0, 7, 0, 14, 0, 21, 0, 28, 0,
                0, 7, 7, 7, 14, 7, 21, 7, 28, 7);
        Scenes.places(CHECK, "nine columns", field, field.block(3, 4, 9, 1), 3, 4, 4, 4, 5, 4, 6, 4, 7, 4, 8, 4, 9, 4,
                10, 4, 11, 4, 3, 5);
    }

    private static void columns() {
        CHECK.sentence("Promise 7: columns: 1 to 10");
        DrillField field = Scenes.withDots(10);
        Scenes.places(CHECK, "one column", field, field.block(9, 0, 1, 2), 9, 0, 9, 2, 9, 4, 9, 6, 9, 8, 9, 10, 9, 12,
                9, 14, 9, 16, 9, 18);
        Scenes.places(CHECK, "two columns", field, field.block(9, 0, 2, 2), 9, 0, 11, 0, 9, 2, 11, 2, 9, 4, 11, 4, 9, 6,
                11, 6, 9, 8, 11, 8);
        Scenes.places(CHECK, "ten columns", field, field.block(9, 0, 10, 2), 9, 0, 11, 0, 13, 0, 15, 0, 17, 0, 19, 0,
                21, 0, 23, 0, 25, 0, 27, 0);
        DrillField two = Scenes.withDots(2);
        Scenes.places(CHECK, "more columns than dots", two, two.block(9, 0, 10, 2), 9, 0, 11, 0);
        CHECK.refusesArgument("no column", Scenes::rich, other -> other.block(100, 100, 0, 10));
        CHECK.refusesArgument("11 columns", Scenes::rich, other -> other.block(100, 100, 11, 10));
    }

    private static void gap() {
        CHECK.sentence("Promise 7: gap: 1 to 400");
        DrillField field = Scenes.withDots(5);
        Scenes.places(CHECK, "a gap of 1", field, field.block(0, 0, 5, 1), 0, 0, 1, 0, 2, 0, 3, 0, 4, 0);
        Scenes.places(CHECK, "a gap of 2", field, field.block(0, 0, 5, 2), 0, 0, 2, 0, 4, 0, 6, 0, 8, 0);
        Scenes.places(CHECK, "a gap of 399", field, field.block(0, 0, 5, 399), 0, 0, 399, 0, 798, 0, 1197, 0, 1596, 0);
        Scenes.places(CHECK, "a gap of 400", field, field.block(0, 0, 3, 400), 0, 0, 400, 0, 800, 0, 0, 400, 400, 400);
        DrillField two = Scenes.withDots(2);
        CHECK.argument("a gap of 0", () -> two.block(0, 0, 2, 0));
        CHECK.argument("a gap of 401, on the field", () -> two.block(0, 0, 2, 401));
        CHECK.due("the first set", two.block(0, 0, 2, 400), 0);
        CHECK.refusesArgument("a gap of 0", Scenes::rich, other -> other.block(100, 100, 2, 0));
        CHECK.refusesArgument("a gap of -1", Scenes::rich, other -> other.block(800, 400, 2, -1));
        CHECK.refusesArgument("a gap of 401", Scenes::rich, other -> other.block(0, 0, 3, 401));
    }

    private static void aPlaceForEachDot() {
        CHECK.sentence("Promise 7: a set has a place for each dot, the place i of n:");
        for (int dots = 2; dots <= 10; dots++) {
            DrillField field = Scenes.withDots(dots);
            int beyond = dots;
            CHECK.due("no place but theirs", field.block(1600 - dots + 1, 840, 10, 1), 0);
            field.part(0, 1, 60, false);
            Scenes.stands(CHECK, "the last place", field, 0, 0, dots - 1, 1600, 840);
            CHECK.index("one more than " + dots, () -> field.place(0, beyond));
        }
        DrillField fewer = Scenes.withDots(10);
        CHECK.argument("of ten dots a place is beside the field", () -> fewer.block(1597, 840, 5, 1));
        fewer.band(4);
        CHECK.due("four dots have no such place", fewer.block(1597, 840, 5, 1), 0);
    }

    private static void xOfTheField() {
        CHECK.sentence("Promise 7: Places are told in tenths of a step: x from 0 to 1600");
        DrillField field = Scenes.withDots(3);
        CHECK.due("from 0", field.block(0, 0, 3, 400), 0);
        CHECK.due("to 1600", field.block(800, 0, 3, 400), 1);
        CHECK.due("to 1599", field.block(799, 0, 3, 400), 2);
        CHECK.argument("from -1", () -> field.block(-1, 0, 3, 400));
        CHECK.argument("to 1601", () -> field.block(801, 0, 3, 400));
        CHECK.argument("to 1601 in the first row", () -> field.block(1201, 0, 2, 400));
        CHECK.due("the next set", field.block(1600, 0, 1, 400), 3);
        CHECK.argument("one column at 1601", () -> field.block(1601, 0, 1, 400));
    }

    private static void yOfTheField() {
        CHECK.sentence("Promise 7: y from 0 to 840.");
        DrillField field = Scenes.withDots(3);
        CHECK.due("from 0", field.block(0, 0, 1, 400), 0);
        CHECK.due("to 840", field.block(0, 40, 1, 400), 1);
        CHECK.due("to 839", field.block(0, 39, 1, 400), 2);
        CHECK.argument("from -1", () -> field.block(0, -1, 1, 400));
        CHECK.argument("to 841", () -> field.block(0, 41, 1, 400));
        CHECK.argument("the last dot alone at 841", () -> field.block(0, 441, 2, 400));
        CHECK.due("the last dot alone at 840", field.block(0, 440, 2, 400), 3);
        CHECK.argument("one row at 841", () -> field.block(0, 841, 3, 400));
        CHECK.due("one row at 840", field.block(0, 840, 3, 400), 4);
    }

    private static void eachPlaceOnTheField() {
        CHECK.sentence("Promise 7: Each place has to be on the field.");
        CHECK.refusesArgument("the first place at x -1", Scenes::rich, field -> field.block(-1, 100, 2, 20));
        CHECK.refusesArgument("the first place at y -1", Scenes::rich, field -> field.block(100, -1, 2, 20));
        CHECK.refusesArgument("the second place at x 1601", Scenes::rich, field -> field.block(1581, 100, 2, 20));
        CHECK.refusesArgument("the last place at y 841", Scenes::rich, field -> field.block(100, 801, 2, 20));
        int[] wrong = {Integer.MIN_VALUE, Integer.MAX_VALUE - 800, Integer.MAX_VALUE};
        for (int number : wrong) {
            CHECK.refusesArgument("x " + number, Scenes::rich, field -> field.block(number, 0, 5, 400));
            CHECK.refusesArgument("y " + number, Scenes::rich, field -> field.block(0, number, 1, 400));
            CHECK.refusesArgument("both " + number, Scenes::nothing, field -> field.block(number, number, 2, 400));
        }
    }

    private static void returnsTheNumber() {
        CHECK.sentence("Promise 7: Returns the number of the set.");
        DrillField field = new DrillField();
        CHECK.due("the first set", field.block(0, 0, 2, 10), 0);
        CHECK.argument("a wrong one", () -> field.block(0, 0, 2, 0));
        CHECK.argument("another wrong one", () -> field.block(0, 831, 2, 10));
        CHECK.due("the next set", field.block(0, 0, 2, 10), 1);
        CHECK.due("a line between", field.line(0, 0, 0, 0), 2);
        CHECK.due("the next block", field.block(0, 0, 2, 10), 3);
    }

    private static void throwsArgument() {
        CHECK.sentence("Promise 7: Throws IllegalArgumentException if columns or gap is out of range, "
                + "or a place is not on the field");
        int[] wrongColumns = {Integer.MIN_VALUE, -1, 0, 11, 12, Integer.MAX_VALUE};
        for (int columns : wrongColumns) {
            CHECK.refusesArgument(columns + " columns", Scenes::rich, field -> field.block(100, 100, columns, 1));
        }
        int[] wrongGaps = {Integer.MIN_VALUE, -400, -1, 0, 401, 1 << 30, Integer.MAX_VALUE};
        for (int gap : wrongGaps) {
            CHECK.refusesArgument("a gap of " + gap, Scenes::rich, field -> field.block(0, 0, 10, gap));
            CHECK.refusesArgument("a gap of " + gap + " for two dots", field -> field.band(2), field -> field.block(0,
                    0, 2, gap));
        }
        CHECK.refusesArgument("all wrong", Scenes::rich, field -> field.block(-1, 841, 0, 0));
    }

    private static void throwsState() {
        CHECK.sentence("Promise 7: Throws IllegalStateException if there are 12");
        CHECK.refusesState("the 13th set", Scenes::allSets, field -> field.block(0, 0, 2, 10));
        DrillField field = Check.told(Scenes::allSets);
        CHECK.state("a block", () -> field.block(0, 0, 2, 10));
        CHECK.state("a block once more", () -> field.block(0, 0, 2, 10));
    }

    private static void atMostTwelve() {
        CHECK.sentence("Promise 7: Sets are numbered from 0, at most 12");
        DrillField field = Scenes.withDots(2);
        for (int set = 0; set < 12; set++) {
            CHECK.due("the set " + set, field.block(set, 0, 2, 10 + set), set);
        }
        CHECK.state("the set 12", () -> field.block(12, 0, 2, 22));
        for (int set = 0; set < 12; set++) {
            Scenes.places(CHECK, "the set " + set, field, set, set, 0, 10 + 2 * set, 0);
        }
    }

    private static void firstOfSeveralExceptions() {
        CHECK.sentence("Promise 7: When a call throws, nothing has changed; of several exceptions it is the first one "
                + "of the throws clause.");
        CHECK.refusesArgument("no columns, and 12 sets", Scenes::allSets, field -> field.block(0, 0, 0, 10));
        CHECK.refusesArgument("a gap of 401, and 12 sets", Scenes::allSets, field -> field.block(0, 0, 2, 401));
        CHECK.refusesArgument("x 1601, and 12 sets", Scenes::allSets, field -> field.block(1591, 0, 2, 10));
    }
}
