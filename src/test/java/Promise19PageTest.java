/** Promise 19, page: each sentence that names a boundary, at it and one step beyond it. */
public final class Promise19PageTest {
    private static final Check CHECK = new Check("Promise19PageTest");

    public static void main(String[] args) {
        whatAPageSays();
        whatZeroToThree();
        theLine();
        howFarOffTheLine();
        nearestOfFour();
        ofTwoTheLowerOne();
        howFarOffTheNearest();
        placeAtTheEnd();
        ofEachPartAndDot();
        throwsIndexOfThePart();
        throwsIndexOfTheDot();
        throwsArgument();
        firstOfSeveralExceptions();
        CHECK.end();
    }

    private static int[] row(int... numbers) {
        return numbers;
    }

    private static int page(int x, int y, int what) {
        return Scenes.lines(2, row(x, y, 800, 280)).page(0, 0, what);
    }

    private static void whatAPageSays() {
        CHECK.sentence("Promise 19: Returns what a page says: 0 the line, 1 how far off, 2 which line of y, 3 how "
                + "far off");
        DrillField field = Scenes.lines(2, row(205, 300, 1600, 840));
        CHECK.due("the line", field.page(0, 0, 0), 3);
        CHECK.due("how far off", field.page(0, 0, 1), -35);
        CHECK.due("which line of y", field.page(0, 0, 2), 1);
        CHECK.due("how far off", field.page(0, 0, 3), 20);
        CHECK.due("the last line", field.page(0, 1, 0), 20);
        CHECK.due("on it", field.page(0, 1, 1), 0);
        CHECK.due("the last line of y", field.page(0, 1, 2), 3);
        CHECK.due("on it", field.page(0, 1, 3), 0);
    }

    private static void whatZeroToThree() {
        CHECK.sentence("Promise 19: what: 0 to 3");
        DrillField field = Scenes.lines(2, row(161, 562, 0, 0));
        CHECK.argument("what -1", () -> field.page(0, 0, -1));
        CHECK.due("what 0", field.page(0, 0, 0), 2);
        CHECK.due("what 1", field.page(0, 0, 1), 1);
        CHECK.due("what 2", field.page(0, 0, 2), 2);
        CHECK.due("what 3", field.page(0, 0, 3), 2);
        CHECK.argument("what 4", () -> field.page(0, 0, 4));
    }

    private static void theLine() {
        CHECK.sentence("Promise 19: A page is of a part and a dot: the dot's place at the end of it, in words: "
                + "the line, 0 to 20, each 80 tenths, that is x and 40 by 80, rounded down");
        CHECK.due("x 0", page(0, 0, 0), 0);
        for (int line = 1; line <= 20; line++) {
            CHECK.due("one ahead of the middle", page(80 * line - 41, 0, 0), line - 1);
            CHECK.due("the middle", page(80 * line - 40, 0, 0), line);
            CHECK.due("on the line", page(80 * line, 0, 0), line);
        }
        CHECK.due("x 1599", page(1599, 0, 0), 20);
        CHECK.due("x 1600", page(1600, 0, 0), 20);
    }

    private static void howFarOffTheLine() {
        CHECK.sentence("Promise 19: how far it is off that, x less 80 times that");
        int[][] due = {{0, 0}, {1, 1}, {39, 39}, {40, -40}, {41, -39}, {79, -1}, {80, 0}, {81, 1}, {119, 39}, {120,
                -40},
            {1559, 39}, {1560, -40}, {1599, -1}, {1600, 0}};
        for (int[] row : due) {
            CHECK.due("x " + row[0], page(row[0], 0, 1), row[1]);
        }
    }

    private static void nearestOfFour() {
        CHECK.sentence("Promise 19: which of the lines at y 0, 280, 560, 840 is nearest, 0 to 3");
        int[][] due = {{0, 0}, {1, 0}, {139, 0}, {141, 1}, {279, 1}, {280, 1}, {281, 1}, {419, 1}, {421, 2}, {559, 2},
                {560, 2},
            {561, 2}, {699, 2}, {701, 3}, {839, 3}, {840, 3}};
        for (int[] row : due) {
            CHECK.due("y " + row[0], page(0, row[0], 2), row[1]);
        }
    }

    private static void ofTwoTheLowerOne() {
        CHECK.sentence("Promise 19: of two the lower one");
        CHECK.due("between 0 and 280", page(0, 140, 2), 0);
        CHECK.due("between 280 and 560", page(0, 420, 2), 1);
        CHECK.due("between 560 and 840", page(0, 700, 2), 2);
        CHECK.due("one more than 140", page(0, 141, 2), 1);
        CHECK.due("one more than 420", page(0, 421, 2), 2);
        CHECK.due("one more than 700", page(0, 701, 2), 3);
    }

    private static void howFarOffTheNearest() {
        CHECK.sentence("Promise 19: and how far it is off that.");
        int[][] due = {{0, 0}, {1, 1}, {140, 140}, {141, -139}, {279, -1}, {280, 0}, {281, 1}, {420, 140}, {421, -139},
            {559, -1}, {560, 0}, {700, 140}, {701, -139}, {839, -1}, {840, 0}};
        for (int[] row : due) {
            CHECK.due("y " + row[0], page(0, row[0], 3), row[1]);
        }
    }

    private static void placeAtTheEnd() {
        CHECK.sentence("Promise 19: the dot's place at the end of it");
        DrillField field = Scenes.lines(2, row(80, 280, 160, 560), row(160, 560, 80, 280));
        field.change(1, 1, 64, 60, false);
        CHECK.due("KEPT", field.page(1, 0, 0), 2);
        CHECK.due("KEPT", field.page(1, 1, 2), 1);
        field.change(1, 1, 1, 240, true);
        CHECK.due("LEAST", field.page(1, 0, 0), 1);
        CHECK.due("LEAST", field.page(1, 1, 2), 2);
        field.change(0, 1, 1, 240, true);
        CHECK.due("found anew", field.page(1, 0, 0), 2);
        CHECK.due("found anew", field.page(1, 1, 2), 1);
        field.ill(0, true);
        CHECK.due("who is ill has a page", field.page(1, 0, 0), 2);
    }

    private static void ofEachPartAndDot() {
        CHECK.sentence("Promise 19: A page is of a part and a dot");
        DrillField field = Scenes.lines(10, row(80, 0, 800, 0), row(80, 280, 800, 280));
        for (int dot = 0; dot < 10; dot++) {
            CHECK.due("the line of the dot " + dot, field.page(0, dot, 0), dot + 1);
            CHECK.due("which line of y in the part 0", field.page(0, dot, 2), 0);
            CHECK.due("which line of y in the part 1", field.page(1, dot, 2), 1);
        }
    }

    private static void throwsIndexOfThePart() {
        CHECK.sentence("Promise 19: Throws IndexOutOfBoundsException as told, of the part or dot");
        int[] wrong = {Integer.MIN_VALUE, -2, -1, 4, 5, 11, 12, Integer.MAX_VALUE};
        for (int part : wrong) {
            CHECK.refusesIndex("the part " + part + " of four", Scenes::rich, field -> field.page(part, 0, 0));
        }
        CHECK.refusesIndex("a part of none", Scenes::nothing, field -> field.page(0, 0, 0));
        DrillField field = Check.told(Scenes::allParts);
        CHECK.due("the part 11", field.page(11, 0, 3), 110);
        CHECK.index("the part 12", () -> field.page(12, 0, 3));
        field.publish();
        field.cut();
        CHECK.index("a part that was published and cut", () -> field.page(11, 0, 3));
    }

    private static void throwsIndexOfTheDot() {
        CHECK.sentence("Promise 19: Throws IndexOutOfBoundsException as told, of the part or dot");
        int[] wrong = {Integer.MIN_VALUE, -2, -1, 5, 6, 10, Integer.MAX_VALUE};
        for (int dot : wrong) {
            CHECK.refusesIndex("the dot " + dot + " of five", Scenes::rich, field -> field.page(1, dot, 0));
        }
        CHECK.refusesIndex("both", Scenes::rich, field -> field.page(4, 5, 0));
        DrillField ten = Scenes.lines(10, row(0, 0, 900, 0));
        CHECK.due("the dot 9", ten.page(0, 9, 0), 11);
        CHECK.index("the dot 10", () -> ten.page(0, 10, 0));
    }

    private static void throwsArgument() {
        CHECK.sentence("Promise 19: Throws IllegalArgumentException as told");
        int[] wrong = {Integer.MIN_VALUE, -2, -1, 4, 5, Integer.MAX_VALUE};
        for (int what : wrong) {
            CHECK.refusesArgument("what " + what, Scenes::rich, field -> field.page(1, 0, what));
        }
    }

    private static void firstOfSeveralExceptions() {
        CHECK.sentence("Promise 19: When a call throws, nothing has changed; of several exceptions it is the first one "
                + "of the throws clause.");
        CHECK.refusesIndex("a wrong part and what", Scenes::rich, field -> field.page(4, 0, 4));
        CHECK.refusesIndex("a wrong dot and what", Scenes::rich, field -> field.page(0, 5, -1));
        CHECK.refusesIndex("all wrong", Scenes::rich, field -> field.page(-1, -1, -1));
    }
}
