/** Promise 6, line: each sentence that names a boundary, at it and one step beyond it. */
public final class Promise06LineTest {
    private static final Check CHECK = new Check("Promise06LineTest");

    public static void main(String[] args) {
        makesALine();
        firstPlace();
        lastPlace();
        placesBetween();
        downBelowZero();
        aPlaceForEachDot();
        xAndYOfTheField();
        eachPlaceOnTheField();
        returnsTheNumber();
        throwsArgument();
        throwsState();
        atMostTwelve();
        firstOfSeveralExceptions();
        CHECK.end();
    }

    private static void makesALine() {
        CHECK.sentence("Promise 6: Makes a line.");
        DrillField field = new DrillField();
        int set = field.line(0, 10, 300, 40);
        Scenes.places(CHECK, "a line", field, set, 0, 10, 100, 20, 200, 30, 300, 40);
    }

    private static void firstPlace() {
        CHECK.sentence("Promise 6: x: the first place y: likewise");
        for (int dots = 2; dots <= 10; dots++) {
            DrillField field = Scenes.withDots(dots);
            field.line(1600, 7, 3, 840);
            field.part(0, 1, 60, false);
            Scenes.stands(CHECK, "the first place of " + dots, field, 0, 0, 0, 1600, 7);
        }
    }

    private static void lastPlace() {
        CHECK.sentence("Promise 6: toX: the last one toY: likewise");
        for (int dots = 2; dots <= 10; dots++) {
            DrillField field = Scenes.withDots(dots);
            field.line(1600, 7, 3, 840);
            field.part(0, 1, 60, false);
            Scenes.stands(CHECK, "the last place of " + dots, field, 0, 0, dots - 1, 3, 840);
        }
    }

    private static void placesBetween() {
        CHECK.sentence("Promise 6: LINE: from a place to another one: the first number and i times the difference, "
                + "by n less 1, rounded down, likewise the second one.");
        DrillField two = Scenes.withDots(2);
        Scenes.places(CHECK, "of two", two, two.line(5, 6, 1600, 0), 5, 6, 1600, 0);
        DrillField three = Scenes.withDots(3);
        Scenes.places(CHECK, "a half", three, three.line(0, 1, 1, 2), 0, 1, 0, 1, 1, 2);
        DrillField four = Scenes.withDots(4);
        Scenes.places(CHECK, "thirds", four, four.line(10, 0, 12, 4), 10, 0, 10, 1, 11, 2, 12, 4);
        DrillField whole = Scenes.withDots(4);
        Scenes.places(CHECK, "whole ones", whole, whole.line(10, 0, 13, 3), 10, 0, 11, 1, 12, 2, 13, 3);
        DrillField ten = Scenes.withDots(10);
        Scenes.places(CHECK, "of ten", ten, ten.line(0, 0, 8, 10), 0, 0, 0, 1, 1, 2, 2, 3, 3, 4, 4, 5, 5, 6, 6, 7, 7,
                8, 8, 10);
    }

    private static void downBelowZero() {
        CHECK.sentence("Promise 6: What is rounded down goes down below 0, too.");
        DrillField three = Scenes.withDots(3);
        Scenes.places(CHECK, "half of -1", three, three.line(1, 2, 0, 1), 1, 2, 0, 1, 0, 1);
        DrillField even = Scenes.withDots(3);
        Scenes.places(CHECK, "half of -2", even, even.line(2, 3, 0, 1), 2, 3, 1, 2, 0, 1);
        DrillField four = Scenes.withDots(4);
        Scenes.places(CHECK, "thirds", four, four.line(12, 4, 10, 0), 12, 4, 11, 2, 10, 1, 10, 0);
        DrillField ten = Scenes.withDots(10);
        Scenes.places(CHECK, "ninths", ten, ten.line(1, 100, 0, 90), 1, 100, 0, 98, 0, 97, 0, 96, 0, 95, 0, 94,
                0, 93, 0, 92, 0, 91, 0, 90);
    }

    private static void aPlaceForEachDot() {
        CHECK.sentence("Promise 6: a set has a place for each dot, the place i of n:");
        for (int dots = 2; dots <= 10; dots++) {
            DrillField field = Scenes.withDots(dots);
            int beyond = dots;
            field.line(0, 0, 10 * (dots - 1), 0);
            field.part(0, 1, 60, false);
            for (int dot = 0; dot < dots; dot++) {
                Scenes.stands(CHECK, "a place of " + dots, field, 0, 1, dot, 10 * dot, 0);
            }
            CHECK.index("one more than " + dots, () -> field.at(0, 1, beyond));
        }
    }

    private static void xAndYOfTheField() {
        CHECK.sentence("Promise 6: Places are told in tenths of a step: x from 0 to 1600, y from 0 to 840.");
        DrillField field = Scenes.withDots(2);
        Scenes.places(CHECK, "from corner to corner", field, field.line(0, 0, 1600, 840), 0, 0, 1600, 840);
        Scenes.places(CHECK, "and back", field, field.line(1600, 840, 0, 0), 1600, 840, 0, 0);
        Scenes.places(CHECK, "the other corners", field, field.line(0, 840, 1600, 0), 0, 840, 1600, 0);
        Scenes.places(CHECK, "one within", field, field.line(1, 839, 1599, 1), 1, 839, 1599, 1);
        CHECK.argument("one beside, left", () -> field.line(-1, 0, 1600, 840));
        CHECK.argument("one beside, right", () -> field.line(1601, 840, 0, 0));
        CHECK.argument("one ahead", () -> field.line(0, -1, 1600, 840));
        CHECK.argument("one behind", () -> field.line(0, 841, 1600, 0));
        CHECK.due("the next set", field.line(0, 0, 0, 0), 4);
    }

    private static void eachPlaceOnTheField() {
        CHECK.sentence("Promise 6: Each place has to be on the field.");
        CHECK.refusesArgument("the first x -1", Scenes::rich, field -> field.line(-1, 100, 200, 100));
        CHECK.refusesArgument("the first x 1601", Scenes::rich, field -> field.line(1601, 100, 200, 100));
        CHECK.refusesArgument("the first y -1", Scenes::rich, field -> field.line(100, -1, 200, 100));
        CHECK.refusesArgument("the first y 841", Scenes::rich, field -> field.line(100, 841, 200, 100));
        CHECK.refusesArgument("the last x -1", Scenes::rich, field -> field.line(100, 100, -1, 100));
        CHECK.refusesArgument("the last x 1601", Scenes::rich, field -> field.line(100, 100, 1601, 100));
        CHECK.refusesArgument("the last y -1", Scenes::rich, field -> field.line(100, 100, 200, -1));
        CHECK.refusesArgument("the last y 841", Scenes::rich, field -> field.line(100, 100, 200, 841));
    }

    private static void returnsTheNumber() {
        CHECK.sentence("Promise 6: Returns the number of the set.");
        DrillField field = new DrillField();
        CHECK.due("the first set", field.line(0, 0, 300, 0), 0);
        CHECK.argument("a wrong one", () -> field.line(0, 0, 300, 841));
        CHECK.due("the next set", field.line(0, 0, 300, 0), 1);
        CHECK.due("a wedge between", field.wedge(100, 0, 10), 2);
        CHECK.due("the next line", field.line(0, 0, 300, 0), 3);
    }

    private static void throwsArgument() {
        CHECK.sentence("Promise 6: Throws IllegalArgumentException if a place is not on the field");
        int[] wrong = {Integer.MIN_VALUE, Integer.MIN_VALUE + 1600, -1, 1601, 1 << 16, Integer.MAX_VALUE};
        for (int number : wrong) {
            CHECK.refusesArgument("x " + number, Scenes::rich, field -> field.line(number, 0, 0, 0));
            CHECK.refusesArgument("y " + number, Scenes::rich, field -> field.line(0, number, 0, 0));
            CHECK.refusesArgument("toX " + number, Scenes::rich, field -> field.line(0, 0, number, 0));
            CHECK.refusesArgument("toY " + number, Scenes::rich, field -> field.line(0, 0, 0, number));
            CHECK.refusesArgument("all " + number, Scenes::nothing, field -> field.line(number, number, number,
                    number));
        }
        DrillField field = new DrillField();
        CHECK.argument("y 1600", () -> field.line(0, 1600, 0, 0));
        CHECK.due("x 841", field.line(841, 0, 841, 0), 0);
    }

    private static void throwsState() {
        CHECK.sentence("Promise 6: Throws IllegalStateException if there are 12");
        CHECK.refusesState("the 13th set", Scenes::allSets, field -> field.line(0, 0, 1600, 840));
        DrillField field = Check.told(Scenes::allSets);
        CHECK.state("a line", () -> field.line(0, 0, 0, 0));
        CHECK.state("a line once more", () -> field.line(0, 0, 0, 0));
        CHECK.due("a part of the last set", field.part(11, 1, 60, false), 0);
        Scenes.stands(CHECK, "the last set", field, 0, 0, 0, 210, 55);
        Scenes.stands(CHECK, "the last set", field, 0, 0, 1, 300, 111);
    }

    private static void atMostTwelve() {
        CHECK.sentence("Promise 6: Sets are numbered from 0, at most 12");
        DrillField field = Scenes.withDots(2);
        for (int set = 0; set < 12; set++) {
            CHECK.due("the set " + set, field.line(set, 0, 0, set), set);
        }
        CHECK.state("the set 12", () -> field.line(12, 0, 0, 12));
        CHECK.index("a part of the set 12", () -> field.part(12, 1, 60, false));
        CHECK.index("a part of the set -1", () -> field.part(-1, 1, 60, false));
        for (int set = 0; set < 12; set++) {
            Scenes.places(CHECK, "the set " + set, field, set, set, 0, 0, set);
        }
    }

    private static void firstOfSeveralExceptions() {
        CHECK.sentence("Promise 6: When a call throws, nothing has changed; of several exceptions it is the first one "
                + "of the throws clause.");
        CHECK.refusesArgument("x -1, and 12 sets", Scenes::allSets, field -> field.line(-1, 0, 0, 0));
        CHECK.refusesArgument("toY 841, and 12 sets", Scenes::allSets, field -> field.line(0, 0, 0, 841));
    }
}
