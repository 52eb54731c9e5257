/** Promise 3, legs: each sentence that names a boundary, at it and one step beyond it. */
public final class Promise03LegsTest {
    private static final Check CHECK = new Check("Promise03LegsTest");

    public static void main(String[] args) {
        tellsLegs();
        fiveToForty();
        returnsWhatTheyWere();
        throwsIndex();
        throwsArgument();
        firstOfSeveralExceptions();
        CHECK.end();
    }

    private static void tellsLegs() {
        CHECK.sentence("Promise 3: Tells the legs of a dot.");
        DrillField field = Scenes.withDots(2);
        field.legs(0, 20);
        CHECK.due("legs of the dot 0", field.legs(0, 20), 20);
        CHECK.due("legs of the dot 1", field.legs(1, 14), 14);
        for (int tenths = 5; tenths <= 40; tenths += 35) {
            DrillField step = Scenes.twoDots(1, 120, Scenes.row(0, 0, 200, 0), Scenes.row(tenths, 0, 200, 0));
            step.legs(0, tenths);
            Scenes.noFault(CHECK, "a step as long as legs of " + tenths, step, 1);
            DrillField longer = Scenes.twoDots(1, 120, Scenes.row(0, 0, 200, 0), Scenes.row(tenths + 1, 0, 200, 0));
            longer.legs(0, tenths);
            Scenes.fault(CHECK, "a step one longer", longer, 1, 1, DrillField.STEP, 0, DrillField.NONE);
        }
    }

    private static void fiveToForty() {
        CHECK.sentence("Promise 3: tenths: 5 to 40");
        DrillField field = new DrillField();
        CHECK.due("legs of 5", field.legs(2, 5), 14);
        CHECK.argument("legs of 4", () -> field.legs(2, 4));
        CHECK.due("legs of 6", field.legs(2, 6), 5);
        CHECK.due("legs of 39", field.legs(2, 39), 6);
        CHECK.due("legs of 40", field.legs(2, 40), 39);
        CHECK.argument("legs of 41", () -> field.legs(2, 41));
        CHECK.due("legs after wrong ones", field.legs(2, 14), 40);
    }

    private static void returnsWhatTheyWere() {
        CHECK.sentence("Promise 3: Returns what they were.");
        DrillField field = Scenes.withDots(10);
        for (int tenths = 5; tenths <= 40; tenths++) {
            CHECK.due("legs of " + tenths + " then", field.legs(9, tenths), tenths == 5 ? 14 : tenths - 1);
        }
        CHECK.due("of another dot", field.legs(8, 40), 14);
        CHECK.due("told the same again", field.legs(8, 40), 40);
    }

    private static void throwsIndex() {
        CHECK.sentence("Promise 3: Throws IndexOutOfBoundsException as told");
        int[] wrong = {Integer.MIN_VALUE, -2, -1, 5, 6, 10, Integer.MAX_VALUE};
        for (int dot : wrong) {
            CHECK.refusesIndex("legs(" + dot + ", 20) of five", Scenes::rich, field -> field.legs(dot, 20));
        }
        DrillField field = Check.told(Scenes::rich);
        CHECK.due("the dot 0", field.legs(0, 20), 20);
        CHECK.due("the dot 4", field.legs(4, 20), 9);
        DrillField ten = Scenes.withDots(10);
        CHECK.due("the dot 9", ten.legs(9, 20), 14);
        CHECK.index("the dot 10", () -> ten.legs(10, 20));
    }

    private static void throwsArgument() {
        CHECK.sentence("Promise 3: Throws IllegalArgumentException as told");
        int[] wrong = {Integer.MIN_VALUE, -14, -1, 0, 4, 41, 14 + (1 << 16), Integer.MAX_VALUE};
        for (int tenths : wrong) {
            CHECK.refusesArgument("legs(0, " + tenths + ")", Scenes::rich, field -> field.legs(0, tenths));
        }
    }

    private static void firstOfSeveralExceptions() {
        CHECK.sentence("Promise 3: When a call throws, nothing has changed; of several exceptions it is the first one "
                + "of the throws clause.");
        CHECK.refusesIndex("legs(5, 4)", Scenes::rich, field -> field.legs(5, 4));
        CHECK.refusesIndex("legs(-1, 41)", Scenes::rich, field -> field.legs(-1, 41));
    }
}
