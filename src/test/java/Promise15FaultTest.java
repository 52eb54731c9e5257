/** Promise 15, fault: steps, whom is looked at, what is told, and what is refused, each at its boundary. */
public final class Promise15FaultTest {
    private static final Check CHECK = new Check("Promise15FaultTest");

    public static void main(String[] args) {
        tellsCountKindAndDots();
        whatZeroToThree();
        noneWithoutAFault();
        countsFromOneOn();
        upToTheLastCount();
        stepIsAtMostTheLegs();
        legsFiveToForty();
        legsAboveTempo120();
        legsRoundedDown();
        ofEachDotThatMarches();
        byRisingNumbers();
        legsOfTheDotInAnyCase();
        firstPartWithoutSteps();
        firstThingThatIsNotSo();
        earlierCountFirst();
        throwsIndex();
        throwsArgument();
        firstOfSeveralExceptions();
        CHECK.end();
    }

    private static int[] row(int... numbers) {
        return numbers;
    }

    /** The dot 0 makes one step; the dot 1 stays far from it. */
    private static DrillField step(int legs, int tempo, int stepX, int stepY) {
        DrillField field = Scenes.twoDots(1, tempo, row(500, 500, 1600, 840), row(500 + stepX, 500 + stepY, 1600, 840));
        field.legs(0, legs);
        return field;
    }

    private static void stepIsFine(int legs, int tempo, int stepX, int stepY) {
        Scenes.noFault(CHECK, "legs " + legs + ", tempo " + tempo, step(legs, tempo, stepX, stepY), 1);
    }

    private static void stepIsTooLong(int legs, int tempo, int stepX, int stepY) {
        Scenes.fault(CHECK, "legs " + legs + ", tempo " + tempo, step(legs, tempo, stepX, stepY), 1, 1,
                DrillField.STEP, 0,
                DrillField.NONE);
    }

    private static void tellsCountKindAndDots() {
        CHECK.sentence("Promise 15: Returns the fault of a part: 0 its count, 1 its kind, 2 the dot, 3 the other "
                + "dot, NONE for STEP");
        DrillField step = Scenes.twoDots(2, 60, row(0, 0, 300, 0), row(28, 0, 329, 0));
        Scenes.fault(CHECK, "a step", step, 1, 2, DrillField.STEP, 1, DrillField.NONE);
        DrillField near = Scenes.twoDots(2, 60, row(0, 0, 20, 0), row(0, 0, 9, 0));
        Scenes.fault(CHECK, "two near", near, 1, 2, DrillField.NEAR, 0, 1);
        DrillField cross = Scenes.twoDots(1, 60, row(0, 0, 10, 0), row(10, 10, 0, 10));
        Scenes.longestLegs(cross, 2);
        Scenes.fault(CHECK, "two that cross", cross, 1, 1, DrillField.CROSS, 0, 1);
    }

    private static void whatZeroToThree() {
        CHECK.sentence("Promise 15: what: 0 to 3");
        DrillField field = Scenes.twoDots(2, 60, row(0, 0, 20, 0), row(0, 0, 9, 0));
        CHECK.argument("what -1", () -> field.fault(1, -1));
        CHECK.due("what 0", field.fault(1, 0), 2);
        CHECK.due("what 1", field.fault(1, 1), DrillField.NEAR);
        CHECK.due("what 2", field.fault(1, 2), 0);
        CHECK.due("what 3", field.fault(1, 3), 1);
        CHECK.argument("what 4", () -> field.fault(1, 4));
    }

    private static void noneWithoutAFault() {
        CHECK.sentence("Promise 15: Returns as told; NONE without a fault.");
        Scenes.noFault(CHECK, "two who walk", Scenes.twoDots(64, 60, row(0, 0, 300, 0), row(100, 0, 400, 0)), 1);
        Scenes.noFault(CHECK, "two who stay", Scenes.twoDots(1, 60, row(0, 0, 300, 0), row(0, 0, 300, 0)), 1);
        DrillField field = Scenes.twoDots(1, 60, row(0, 0, 300, 0), row(15, 0, 315, 0));
        Scenes.fault(CHECK, "with a fault", field, 1, 1, DrillField.STEP, 0, DrillField.NONE);
        field.change(1, 1, 2, 60, false);
        Scenes.noFault(CHECK, "with a count more", field, 1);
        field.change(1, 1, 1, 60, false);
        Scenes.fault(CHECK, "with a count less", field, 1, 1, DrillField.STEP, 0, DrillField.NONE);
    }

    private static void countsFromOneOn() {
        CHECK.sentence("Promise 15: In a part the counts from 1 on are looked at");
        DrillField apart = Scenes.twoDots(1, 60, row(0, 0, 9, 0), row(0, 0, 10, 0));
        Scenes.noFault(CHECK, "near at the count 0 alone", apart, 1);
        Scenes.fault(CHECK, "the part ahead", apart, 0, 1, DrillField.NEAR, 0, 1);
        DrillField near = Scenes.twoDots(1, 60, row(0, 0, 10, 0), row(0, 0, 9, 0));
        Scenes.fault(CHECK, "near at the count 1", near, 1, 1, DrillField.NEAR, 0, 1);
        Scenes.noFault(CHECK, "the part ahead", near, 0);
    }

    private static void upToTheLastCount() {
        CHECK.sentence("Promise 15: one behind the other, each for all of this");
        DrillField late = Scenes.twoDots(64, 60, row(0, 0, 300, 0), row(897, 0, 1197, 0));
        Scenes.fault(CHECK, "14 in each count, 15 in the last one", late, 1, 64, DrillField.STEP, 0, DrillField.NONE);
        Scenes.noFault(CHECK, "14 in each count", Scenes.twoDots(64, 60, row(0, 0, 300, 0), row(896, 0, 1196, 0)), 1);
        DrillField early = Scenes.twoDots(64, 60, row(897, 0, 1197, 0), row(0, 0, 300, 0));
        Scenes.fault(CHECK, "15 in the first count, 14 in the others", early, 1, 1, DrillField.STEP, 0,
                DrillField.NONE);
        DrillField middle = Scenes.twoDots(3, 60, row(0, 0, 300, 0), row(43, 0, 343, 0));
        Scenes.fault(CHECK, "14, 14, 15", middle, 1, 3, DrillField.STEP, 0, DrillField.NONE);
        DrillField second = Scenes.twoDots(3, 60, row(0, 0, 300, 0), row(44, 0, 344, 0));
        Scenes.fault(CHECK, "14, 15, 15", second, 1, 2, DrillField.STEP, 0, DrillField.NONE);
        DrillField near = Scenes.twoDots(64, 60, row(0, 0, 73, 0), row(0, 0, 9, 0));
        Scenes.fault(CHECK, "near at the last count", near, 1, 64, DrillField.NEAR, 0, 1);
        DrillField beyond = Scenes.twoDots(4, 60, row(0, 0, 50, 0), row(0, 0, 10, 0));
        Scenes.noFault(CHECK, "near if they went on for a count more", beyond, 1);
        Scenes.noFault(CHECK, "the part ahead", beyond, 0);
    }

    private static void stepIsAtMostTheLegs() {
        CHECK.sentence("Promise 15: the square of the step from the count ahead is at most that of its legs");
        int[][] fine = {{14, 0}, {-14, 0}, {0, 14}, {0, -14}, {9, 10}, {13, 5}};
        for (int[] way : fine) {
            stepIsFine(14, 120, way[0], way[1]);
        }
        int[][] tooLong = {{15, 0}, {-15, 0}, {0, 15}, {0, -15}, {10, 10}, {14, 1}, {1, -14}, {13, 6}};
        for (int[] way : tooLong) {
            stepIsTooLong(14, 120, way[0], way[1]);
        }
    }

    private static void legsFiveToForty() {
        CHECK.sentence("Promise 15: A dot has legs: how long a step can be, 5 to 40 tenths, 14 at first.");
        stepIsFine(5, 120, 3, 4);
        stepIsFine(5, 120, 5, 0);
        stepIsTooLong(5, 120, 4, 4);
        stepIsTooLong(5, 120, 5, 1);
        stepIsFine(40, 120, 24, 32);
        stepIsFine(40, 120, 0, -40);
        stepIsTooLong(40, 120, 24, 33);
        stepIsTooLong(40, 120, 1, -40);
        stepIsTooLong(40, 120, 41, 0);
        DrillField first = Scenes.twoDots(1, 120, row(0, 0, 300, 0), row(14, 0, 314, 0));
        Scenes.noFault(CHECK, "14 at first", first, 1);
        DrillField longer = Scenes.twoDots(1, 120, row(0, 0, 300, 0), row(15, 0, 314, 0));
        Scenes.fault(CHECK, "15 is too long at first", longer, 1, 1, DrillField.STEP, 0, DrillField.NONE);
        DrillField widest = Scenes.twoDots(1, 120, row(0, 0, 1600, 0), row(1600, 840, 1600, 0));
        Scenes.fault(CHECK, "the longest step of all", widest, 1, 1, DrillField.STEP, 0, DrillField.NONE);
    }

    private static void legsAboveTempo120() {
        CHECK.sentence("Promise 15: legs are less, if the tempo is above 120");
        stepIsFine(14, 60, 14, 0);
        stepIsTooLong(14, 60, 15, 0);
        stepIsFine(14, 119, 14, 0);
        stepIsTooLong(14, 119, 15, 0);
        stepIsFine(14, 120, 14, 0);
        stepIsTooLong(14, 120, 15, 0);
        stepIsFine(14, 121, 13, 0);
        stepIsTooLong(14, 121, 14, 0);
        stepIsFine(14, 240, 7, 0);
        stepIsTooLong(14, 240, 8, 0);
    }

    private static void legsRoundedDown() {
        CHECK.sentence("Promise 15: times 120 by the tempo, rounded down.");
        stepIsFine(14, 129, 13, 0);
        stepIsTooLong(14, 129, 14, 0);
        stepIsFine(14, 130, 12, 0);
        stepIsTooLong(14, 130, 13, 0);
        stepIsFine(5, 240, 2, 0);
        stepIsTooLong(5, 240, 2, 1);
        stepIsTooLong(5, 240, 3, 0);
        stepIsFine(5, 121, 4, 0);
        stepIsTooLong(5, 121, 5, 0);
        stepIsFine(40, 240, 12, 16);
        stepIsTooLong(40, 240, 12, 17);
        stepIsFine(40, 121, 39, 0);
        stepIsTooLong(40, 121, 40, 0);
        stepIsFine(15, 160, 11, 0);
        stepIsTooLong(15, 160, 12, 0);
        stepIsFine(15, 150, 12, 0);
        stepIsTooLong(15, 150, 12, 1);
    }

    private static void ofEachDotThatMarches() {
        CHECK.sentence("Promise 15: first steps: of each dot that marches");
        DrillField field = Scenes.lines(10, row(0, 0, 900, 0), row(15, 0, 915, 0));
        for (int dot = 0; dot < 10; dot++) {
            Scenes.fault(CHECK, "all are too slow", field, 1, 1, DrillField.STEP, dot, DrillField.NONE);
            field.ill(dot, true);
        }
        Scenes.noFault(CHECK, "nobody marches", field, 1);
        field.alternate(0, 9, false);
        Scenes.fault(CHECK, "an alternate of the last dot", field, 1, 1, DrillField.STEP, 9, DrillField.NONE);
        field.alternate(1, 0, true);
        Scenes.fault(CHECK, "an ill alternate of the first dot", field, 1, 1, DrillField.STEP, 9, DrillField.NONE);
        field.alternate(1, 0, false);
        Scenes.fault(CHECK, "he is well", field, 1, 1, DrillField.STEP, 0, DrillField.NONE);
        field.alternate(1, DrillField.NONE, false);
        field.alternate(0, DrillField.NONE, false);
        Scenes.noFault(CHECK, "nobody marches again", field, 1);
    }

    private static void byRisingNumbers() {
        CHECK.sentence("Promise 15: by rising numbers");
        DrillField field = Scenes.lines(10, row(0, 0, 900, 0), row(15, 0, 915, 0));
        for (int dot = 0; dot < 10; dot++) {
            Scenes.fault(CHECK, "the lowest that is too slow", field, 1, 1, DrillField.STEP, dot, DrillField.NONE);
            field.legs(dot, 15);
        }
        Scenes.noFault(CHECK, "nobody is too slow", field, 1);
        field.legs(9, 14);
        Scenes.fault(CHECK, "the last alone", field, 1, 1, DrillField.STEP, 9, DrillField.NONE);
        field.legs(4, 14);
        Scenes.fault(CHECK, "a lower one", field, 1, 1, DrillField.STEP, 4, DrillField.NONE);
    }

    private static void legsOfTheDotInAnyCase() {
        CHECK.sentence("Promise 15: A dot marches, if it is not ill, or an alternate who is not ill knows its place "
                + "(steps are by the legs of the dot in any case).");
        DrillField field = Scenes.twoDots(1, 120, row(0, 0, 300, 0), row(20, 0, 300, 0));
        field.ill(0, true);
        field.alternate(0, 0, false);
        field.legs(0, 20);
        Scenes.noFault(CHECK, "an alternate by legs of 20", field, 1);
        field.legs(0, 19);
        Scenes.fault(CHECK, "an alternate by legs of 19", field, 1, 1, DrillField.STEP, 0, DrillField.NONE);
        field.legs(1, 40);
        Scenes.fault(CHECK, "by no other's legs", field, 1, 1, DrillField.STEP, 0, DrillField.NONE);
    }

    private static void firstPartWithoutSteps() {
        CHECK.sentence("Promise 15: In the first part at the count 1 steps are 0.");
        DrillField field = Scenes.lines(2, row(0, 0, 1600, 840));
        field.legs(0, 5);
        field.legs(1, 5);
        for (int counts = 1; counts <= 64; counts += 63) {
            field.change(0, 0, counts, 240, true);
            Scenes.noFault(CHECK, "the first part", field, 0);
        }
        DrillField near = Scenes.lines(2, row(5, 5, 12, 12));
        Scenes.fault(CHECK, "a first part of two near", near, 0, 1, DrillField.NEAR, 0, 1);
    }

    private static void firstThingThatIsNotSo() {
        CHECK.sentence("Promise 15: The first thing that is not so is the part's fault, of the kind STEP, NEAR or "
                + "CROSS.");
        DrillField both = Scenes.twoDots(1, 120, row(0, 0, 30, 0), row(0, 0, 9, 0));
        Scenes.fault(CHECK, "a step ahead of nearness", both, 1, 1, DrillField.STEP, 1, DrillField.NONE);
        both.legs(1, 21);
        Scenes.fault(CHECK, "nearness, the step being fine", both, 1, 1, DrillField.NEAR, 0, 1);
        DrillField crossing = Scenes.twoDots(1, 120, row(0, 0, 10, 0), row(10, 10, 0, 10));
        Scenes.fault(CHECK, "a step ahead of crossing", crossing, 1, 1, DrillField.STEP, 0, DrillField.NONE);
        crossing.legs(0, 15);
        Scenes.fault(CHECK, "the other's step ahead of crossing", crossing, 1, 1, DrillField.STEP, 1, DrillField.NONE);
        crossing.legs(1, 15);
        Scenes.fault(CHECK, "crossing, the steps being fine", crossing, 1, 1, DrillField.CROSS, 0, 1);
        DrillField nearAndCrossing = Scenes.twoDots(1, 120, row(0, 0, 10, 0), row(9, 10, 0, 10));
        Scenes.longestLegs(nearAndCrossing, 2);
        Scenes.fault(CHECK, "nearness ahead of crossing", nearAndCrossing, 1, 1, DrillField.NEAR, 0, 1);
    }

    private static void earlierCountFirst() {
        CHECK.sentence("Promise 15: In a part the counts from 1 on are looked at, one behind the other, each for "
                + "all of this");
        DrillField nearFirst = Scenes.twoDots(3, 120, row(0, 0, 22, 0), row(43, 0, 22, 0));
        Scenes.fault(CHECK, "near at the count 1, a long step at the count 3", nearFirst, 1, 1, DrillField.NEAR, 0, 1);
        DrillField stepFirst = Scenes.twoDots(3, 120, row(10, 0, 40, 0), row(10, 0, 17, 0));
        Scenes.fault(CHECK, "near at the count 3", stepFirst, 1, 3, DrillField.NEAR, 0, 1);
        stepFirst.legs(1, 7);
        Scenes.fault(CHECK, "a long step at the count 1", stepFirst, 1, 1, DrillField.STEP, 1, DrillField.NONE);
        DrillField crossFirst = Scenes.twoDots(2, 120, row(70, 22, 100, 30), row(140, 40, 140, 32));
        Scenes.longestLegs(crossFirst, 2);
        Scenes.fault(CHECK, "crossing at the count 1, near at the count 2", crossFirst, 1, 1, DrillField.CROSS, 0, 1);
        DrillField alone = Scenes.twoDots(1, 120, row(105, 31, 120, 31), row(140, 40, 140, 32));
        Scenes.longestLegs(alone, 2);
        Scenes.fault(CHECK, "near at that count alone", alone, 1, 1, DrillField.NEAR, 0, 1);
    }

    private static void throwsIndex() {
        CHECK.sentence("Promise 15: Throws IndexOutOfBoundsException as told");
        int[] wrong = {Integer.MIN_VALUE, -2, -1, 4, 5, 11, 12, Integer.MAX_VALUE};
        for (int part : wrong) {
            CHECK.refusesIndex("fault(" + part + ", 0) of four parts", Scenes::rich, field -> field.fault(part, 0));
        }
        CHECK.refusesIndex("fault(0, 0) of no part", Scenes::nothing, field -> field.fault(0, 0));
        DrillField field = Check.told(Scenes::allParts);
        Scenes.noFault(CHECK, "the part 0 of 12", field, 0);
        Scenes.noFault(CHECK, "the part 11 of 12", field, 11);
        CHECK.index("the part 12", () -> field.fault(12, 0));
        field.cut();
        CHECK.index("a part that was cut", () -> field.fault(11, 0));
    }

    private static void throwsArgument() {
        CHECK.sentence("Promise 15: Throws IllegalArgumentException as told");
        int[] wrong = {Integer.MIN_VALUE, -2, -1, 4, 5, Integer.MAX_VALUE};
        for (int what : wrong) {
            CHECK.refusesArgument("fault(1, " + what + ")", Scenes::rich, field -> field.fault(1, what));
        }
    }

    private static void firstOfSeveralExceptions() {
        CHECK.sentence("Promise 15: When a call throws, nothing has changed; of several exceptions it is the first one "
                + "of the throws clause.");
        CHECK.refusesIndex("fault(4, 4)", Scenes::rich, field -> field.fault(4, 4));
        CHECK.refusesIndex("fault(-1, -1)", Scenes::rich, field -> field.fault(-1, -1));
    }
}
