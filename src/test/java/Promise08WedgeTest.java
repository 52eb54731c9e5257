/** Promise 8, wedge: each sentence that names a boundary, at it and one step beyond it. */
public final class Promise08WedgeTest {
    private static final Check CHECK = new Check("Promise08WedgeTest");

    public static void main(String[] args) {
        makesAWedge();
        places();
        gap();
        aPlaceForEachDot();
        xOfTheField();
        yOfTheField();
        eachPlaceOnTheField();
        returnsTheNumber();
        throwsArgument();
        throwsState();
        atMostTwelve();
        firstOfSeveralExceptions();
        CHECK.end();
    }

    private static void makesAWedge() {
        CHECK.sentence("Promise 8: Makes a wedge.");
        DrillField field = Scenes.withDots(5);
        Scenes.places(CHECK, "a wedge", field, field.wedge(700, 100, 30), 700, 100, 670, 130, 730, 130, 640, 160, 760,
                160);
    }

    private static void places() {
        CHECK.sentence("Promise 8: WEDGE: a gap: with r being i and 1 by 2, rounded down, y and the gap times r, "
                + "and x less the gap times r for odd i, more for even ones.");
        DrillField two = Scenes.withDots(2);
        Scenes.places(CHECK, "of two", two, two.wedge(30, 40, 7), 30, 40, 23, 47);
        DrillField three = Scenes.withDots(3);
        Scenes.places(CHECK, "of three", three, three.wedge(30, 40, 7), 30, 40, 23, 47, 37, 47);
        DrillField ten = Scenes.withDots(10);
        Scenes.places(CHECK, "of ten", ten, ten.wedge(800, 0, 100), 800, 0, 700, 100, 900, 100, 600, 200, 1000, 200,
                500, 300, 1100, 300, 400, 400, 1200, 400, 300, 500);
    }

    private static void gap() {
        CHECK.sentence("Promise 8: gap: 1 to 400");
        DrillField field = Scenes.withDots(5);
        Scenes.places(CHECK, "a gap of 1", field, field.wedge(800, 0, 1), 800, 0, 799, 1, 801, 1, 798, 2, 802, 2);
        Scenes.places(CHECK, "a gap of 2", field, field.wedge(800, 0, 2), 800, 0, 798, 2, 802, 2, 796, 4, 804, 4);
        Scenes.places(CHECK, "a gap of 399", field, field.wedge(800, 0, 399), 800, 0, 401, 399, 1199, 399, 2, 798,
                1598, 798);
        Scenes.places(CHECK, "a gap of 400", field, field.wedge(800, 0, 400), 800, 0, 400, 400, 1200, 400, 0, 800,
                1600, 800);
        DrillField two = Scenes.withDots(2);
        CHECK.argument("a gap of 0", () -> two.wedge(800, 0, 0));
        CHECK.argument("a gap of 401, on the field", () -> two.wedge(800, 0, 401));
        CHECK.due("the first set", two.wedge(800, 0, 400), 0);
        CHECK.refusesArgument("a gap of 0", Scenes::rich, other -> other.wedge(800, 0, 0));
        CHECK.refusesArgument("a gap of -1", Scenes::rich, other -> other.wedge(800, 100, -1));
        CHECK.refusesArgument("a gap of 401", Scenes::rich, other -> other.wedge(802, 0, 401));
    }

    private static void aPlaceForEachDot() {
        CHECK.sentence("Promise 8: a set has a place for each dot, the place i of n:");
        for (int dots = 2; dots <= 10; dots++) {
            DrillField field = Scenes.withDots(dots);
            int beyond = dots;
            int rows = dots / 2;
            CHECK.due("no place but theirs", field.wedge(rows, 840 - rows, 1), 0);
            field.part(0, 1, 60, false);
            int lastX = dots % 2 == 0 ? 0 : 2 * rows;
            Scenes.stands(CHECK, "the last place", field, 0, 0, dots - 1, lastX, 840);
            CHECK.index("one more than " + dots, () -> field.place(0, beyond));
        }
    }

    private static void xOfTheField() {
        CHECK.sentence("Promise 8: Places are told in tenths of a step: x from 0 to 1600");
        DrillField five = Scenes.withDots(5);
        CHECK.due("from 0", five.wedge(60, 0, 30), 0);
        CHECK.due("from 1", five.wedge(61, 0, 30), 1);
        CHECK.argument("from -1", () -> five.wedge(59, 0, 30));
        CHECK.due("to 1600", five.wedge(1540, 0, 30), 2);
        CHECK.due("to 1599", five.wedge(1539, 0, 30), 3);
        CHECK.argument("to 1601", () -> five.wedge(1541, 0, 30));
        DrillField two = Scenes.withDots(2);
        CHECK.due("nobody on the right: to 1600", two.wedge(1600, 0, 30), 0);
        CHECK.argument("nobody on the right: to 1601", () -> two.wedge(1601, 0, 30));
        CHECK.due("one on the left: from 0", two.wedge(30, 0, 30), 1);
        CHECK.argument("one on the left: from -1", () -> two.wedge(29, 0, 30));
    }

    private static void yOfTheField() {
        CHECK.sentence("Promise 8: y from 0 to 840.");
        DrillField field = Scenes.withDots(4);
        CHECK.due("from 0", field.wedge(800, 0, 30), 0);
        CHECK.argument("from -1", () -> field.wedge(800, -1, 30));
        CHECK.due("to 840", field.wedge(800, 780, 30), 1);
        CHECK.due("to 839", field.wedge(800, 779, 30), 2);
        CHECK.argument("to 841, by the last dot alone", () -> field.wedge(800, 781, 30));
        CHECK.argument("the first place at 841", () -> field.wedge(800, 841, 1));
        CHECK.due("the next set", field.wedge(800, 838, 1), 3);
    }

    private static void eachPlaceOnTheField() {
        CHECK.sentence("Promise 8: Each place has to be on the field.");
        CHECK.refusesArgument("the place 3 at x -1", Scenes::rich, field -> field.wedge(59, 100, 30));
        CHECK.refusesArgument("the place 4 at x 1601", Scenes::rich, field -> field.wedge(1541, 100, 30));
        CHECK.refusesArgument("the place 0 at y -1", Scenes::rich, field -> field.wedge(800, -1, 30));
        CHECK.refusesArgument("the last places at y 841", Scenes::rich, field -> field.wedge(800, 781, 30));
        int[] wrong = {Integer.MIN_VALUE, Integer.MIN_VALUE + 400, Integer.MAX_VALUE - 400, Integer.MAX_VALUE};
        for (int number : wrong) {
            CHECK.refusesArgument("x " + number, Scenes::rich, field -> field.wedge(number, 0, 400));
            CHECK.refusesArgument("y " + number, Scenes::rich, field -> field.wedge(800, number, 400));
            CHECK.refusesArgument("both " + number, Scenes::nothing, field -> field.wedge(number, number, 1));
        }
    }

    private static void returnsTheNumber() {
        CHECK.sentence("Promise 8: Returns the number of the set.");
        DrillField field = new DrillField();
        CHECK.due("the first set", field.wedge(800, 0, 10), 0);
        CHECK.argument("a wrong one", () -> field.wedge(800, 0, 0));
        CHECK.argument("another wrong one", () -> field.wedge(0, 0, 10));
        CHECK.due("the next set", field.wedge(800, 0, 10), 1);
        CHECK.due("a block between", field.block(0, 0, 2, 10), 2);
        CHECK.due("the next wedge", field.wedge(800, 0, 10), 3);
    }

    private static void throwsArgument() {
        CHECK.sentence("Promise 8: Throws IllegalArgumentException if gap is out of range, or a place is not on "
                + "the field");
        int[] wrongGaps = {Integer.MIN_VALUE, -400, -1, 0, 401, 1 << 30, 1 << 31, Integer.MAX_VALUE};
        for (int gap : wrongGaps) {
            CHECK.refusesArgument("a gap of " + gap, Scenes::rich, field -> field.wedge(800, 0, gap));
            CHECK.refusesArgument("a gap of " + gap + " for two dots", field -> field.band(2),
                    field -> field.wedge(800, 0, gap));
        }
        CHECK.refusesArgument("all wrong", Scenes::rich, field -> field.wedge(-1, 841, 0));
    }

    private static void throwsState() {
        CHECK.sentence("Promise 8: Throws IllegalStateException if there are 12");
        CHECK.refusesState("the 13th set", Scenes::allSets, field -> field.wedge(800, 0, 10));
        DrillField field = Check.told(Scenes::allSets);
        CHECK.state("a wedge", () -> field.wedge(800, 0, 10));
        CHECK.state("a wedge once more", () -> field.wedge(800, 0, 10));
    }

    private static void atMostTwelve() {
        CHECK.sentence("Promise 8: Sets are numbered from 0, at most 12");
        DrillField field = Scenes.withDots(2);
        for (int set = 0; set < 12; set++) {
            CHECK.due("the set " + set, field.wedge(800, set, 10 + set), set);
        }
        CHECK.state("the set 12", () -> field.wedge(800, 12, 22));
        for (int set = 0; set < 12; set++) {
            Scenes.places(CHECK, "the set " + set, field, set, 800, set, 790 - set, 10 + 2 * set);
        }
    }

    private static void firstOfSeveralExceptions() {
        CHECK.sentence("Promise 8: When a call throws, nothing has changed; of several exceptions it is the first one "
                + "of the throws clause.");
        CHECK.refusesArgument("a gap of 0, and 12 sets", Scenes::allSets, field -> field.wedge(800, 0, 0));
        CHECK.refusesArgument("a gap of 401, and 12 sets", Scenes::allSets, field -> field.wedge(800, 0, 401));
        CHECK.refusesArgument("x -1, and 12 sets", Scenes::allSets, field -> field.wedge(9, 0, 10));
    }
}
