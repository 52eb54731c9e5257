/** Promise 18, caught: each sentence that names a boundary, at it and one step beyond it. */
public final class Promise18CaughtTest {
    private static final Check CHECK = new Check("Promise18CaughtTest");

    public static void main(String[] args) {
        tellsWhether();
        differsByTenInX();
        differsByTenInY();
        bothNumbers();
        heightsOneToNine();
        soManyCountsLater();
        atTheLastCount();
        byTheWindTimesTheHeight();
        winds();
        countOfThePart();
        onTheSpot();
        throwsIndexOfThePart();
        throwsIndexOfTheDot();
        throwsArgument();
        throwsState();
        whoMarches();
        firstOfSeveralExceptions();
        CHECK.end();
    }

    private static int[] row(int... numbers) {
        return numbers;
    }

    /** A toss at the count 0 of a part of one count, in which the dot 0 makes a way. */
    private static boolean isCaught(int wayX, int wayY, int wind) {
        DrillField field = Scenes.twoDots(1, 60, row(500, 500, 0, 0), row(500 + wayX, 500 + wayY, 0, 0));
        return field.caught(1, 0, 0, 1, wind);
    }

    private static void tellsWhether() {
        CHECK.sentence("Promise 18: Tells whether a toss is caught.");
        CHECK.holds("who stays", isCaught(0, 0, 0));
        CHECK.holds("who stays, in the strongest wind", !isCaught(0, 0, 20) && !isCaught(0, 0, -20));
        DrillField field = Check.told(Scenes::rich);
        CHECK.holds("as often as one asks", field.caught(1, 0, 0, 1, 0) == field.caught(1, 0, 0, 1, 0));
    }

    private static void differsByTenInX() {
        CHECK.sentence("Promise 18: it is caught if both numbers differ from those of the dot then by 10 at most.");
        CHECK.holds("by 9", isCaught(9, 0, 0) && isCaught(-9, 0, 0));
        CHECK.holds("by 10", isCaught(10, 0, 0) && isCaught(-10, 0, 0));
        CHECK.holds("by 11 on the right", !isCaught(11, 0, 0));
        CHECK.holds("by 11 on the left", !isCaught(-11, 0, 0));
        CHECK.holds("by much", !isCaught(1100, 0, 20) && !isCaught(-500, 0, -20));
    }

    private static void differsByTenInY() {
        CHECK.sentence("Promise 18: if both numbers differ from those of the dot then by 10 at most.");
        CHECK.holds("by 9", isCaught(0, 9, 0) && isCaught(0, -9, 0));
        CHECK.holds("by 10", isCaught(0, 10, 0) && isCaught(0, -10, 0));
        CHECK.holds("by 11 behind", !isCaught(0, 11, 0));
        CHECK.holds("by 11 ahead", !isCaught(0, -11, 0));
        CHECK.holds("by much", !isCaught(0, 340, 0) && !isCaught(0, -500, 0));
    }

    private static void bothNumbers() {
        CHECK.sentence("Promise 18: both numbers differ from those of the dot then by 10 at most.");
        CHECK.holds("both by 10", isCaught(10, 10, 0) && isCaught(-10, 10, 0) && isCaught(10, -10, 0) && isCaught(-10,
                -10, 0));
        CHECK.holds("x by 11", !isCaught(11, 10, 0) && !isCaught(-11, -10, 0));
        CHECK.holds("y by 11", !isCaught(10, 11, 0) && !isCaught(-10, -11, 0));
        CHECK.holds("both by 11", !isCaught(11, 11, 0));
    }

    private static void heightsOneToNine() {
        CHECK.sentence("Promise 18: height: 1 to 9");
        DrillField field = Scenes.lines(2, row(500, 500, 0, 0));
        for (int height = 1; height <= 9; height++) {
            CHECK.holds("the height " + height, field.caught(0, 0, 0, height, 0));
            CHECK.due("the height " + height + " in the wind", field.caught(0, 0, 0, height, 2) ? 1 : 0,
                    height <= 5 ? 1 : 0);
        }
        CHECK.refusesArgument("the height 0", Scenes::rich, other -> other.caught(1, 0, 0, 0, 0));
        CHECK.refusesArgument("the height 10", Scenes::rich, other -> other.caught(1, 0, 0, 10, 0));
    }

    /** The dot 0 makes 5 tenths in each count, the dot 1 stands. */
    private static DrillField walk(int counts) {
        return Scenes.twoDots(counts, 60, row(500, 500, 0, 0), row(500 + 5 * counts, 500, 0, 0));
    }

    private static void soManyCountsLater() {
        CHECK.sentence("Promise 18: A toss of a height, 1 to 9, is caught so many counts later");
        DrillField field = walk(64);
        CHECK.holds("the height 1: 5 tenths", field.caught(1, 0, 0, 1, 0));
        CHECK.holds("the height 2: 10 tenths", field.caught(1, 0, 0, 2, 0));
        CHECK.holds("the height 3: 15 tenths", !field.caught(1, 0, 0, 3, 0));
        CHECK.holds("the height 9: 45 tenths", !field.caught(1, 0, 0, 9, 0));
        CHECK.holds("the height 9 in the wind: 45 and 45 tenths", field.caught(1, 0, 0, 9, 5));
        CHECK.holds("the height 9 in the wind: 45 and 36 tenths", field.caught(1, 55, 0, 9, 4));
        CHECK.holds("the height 9 in the wind: 45 and 54 tenths", field.caught(1, 55, 0, 9, 6));
        CHECK.holds("the height 9 in the wind: 45 and 27 tenths", !field.caught(1, 0, 0, 9, 3));
    }

    private static void atTheLastCount() {
        CHECK.sentence("Promise 18: at the last count of the part, if that is over by then");
        DrillField field = walk(20);
        CHECK.holds("9 counts from the last one: 45 tenths", !field.caught(1, 11, 0, 9, 0));
        CHECK.holds("9 counts from the last one, wind for 45 tenths", field.caught(1, 11, 0, 9, 5));
        CHECK.holds("8 counts from the last one, wind for 45 tenths: 40", field.caught(1, 12, 0, 9, 5));
        CHECK.holds("7 counts from the last one, wind for 45 tenths: 35", field.caught(1, 13, 0, 9, 5));
        CHECK.holds("6 counts from the last one, wind for 45 tenths: 30", !field.caught(1, 14, 0, 9, 5));
        CHECK.holds("3 counts from the last one: 15 tenths", !field.caught(1, 17, 0, 9, 0));
        CHECK.holds("2 counts from the last one: 10 tenths", field.caught(1, 18, 0, 9, 0));
        CHECK.holds("at the last count", field.caught(1, 20, 0, 9, 0));
        CHECK.holds("at the last count, the wind has its whole height: 9", field.caught(1, 20, 0, 9, 1));
        CHECK.holds("at the last count, the wind has its whole height: 18", !field.caught(1, 20, 0, 9, 2));
        field.part(0, 1, 60, false);
        CHECK.holds("the next part does not matter", field.caught(1, 20, 0, 9, 0));
    }

    private static void byTheWindTimesTheHeight() {
        CHECK.sentence("Promise 18: what is tossed comes down at the place of the dot at the toss, x more by the wind, "
                + "-20 to 20, times the height");
        DrillField field = Scenes.lines(2, row(500, 500, 0, 0));
        for (int height = 1; height <= 9; height++) {
            int most = 10 / height;
            CHECK.holds("wind " + most, field.caught(0, 0, 0, height, most));
            CHECK.holds("wind " + -most, field.caught(0, 0, 0, height, -most));
            CHECK.holds("more wind than " + most, !field.caught(0, 0, 0, height, most + 1));
            CHECK.holds("less wind than " + -most, !field.caught(0, 0, 0, height, -most - 1));
        }
        CHECK.holds("the wind takes it to the right", isCaught(30, 0, 20) && !isCaught(-30, 0, 20) && !isCaught(0, 30,
                20));
        CHECK.holds("the wind takes it to the left", isCaught(-30, 0, -20) && !isCaught(30, 0, -20) && !isCaught(0,
                -30, -20));
        CHECK.holds("one tenth more", !isCaught(31, 0, 20) && !isCaught(-31, 0, -20) && !isCaught(9, 0, 20)
                && isCaught(10, 0, 20));
    }

    private static void winds() {
        CHECK.sentence("Promise 18: wind: -20 to 20");
        for (int wind = -20; wind <= 20; wind++) {
            CHECK.holds("as far as the wind " + wind, isCaught(wind, 0, wind));
        }
        DrillField far = Scenes.twoDots(9, 60, row(500, 500, 0, 0), row(680, 500, 0, 0));
        CHECK.holds("180 tenths to the right", far.caught(1, 0, 0, 9, 20));
        CHECK.holds("a wind less", far.caught(1, 0, 0, 9, 19));
        CHECK.holds("two winds less", !far.caught(1, 0, 0, 9, 18));
        CHECK.refusesArgument("wind 21", Scenes::rich, field -> field.caught(1, 0, 0, 1, 21));
        CHECK.refusesArgument("wind -21", Scenes::rich, field -> field.caught(1, 0, 0, 1, -21));
    }

    private static void countOfThePart() {
        CHECK.sentence("Promise 18: count: 0 to the counts of the part");
        int[] counts = {1, 2, 63, 64};
        for (int told : counts) {
            DrillField field = walk(told);
            CHECK.holds("the count 0 of " + told, field.caught(1, 0, 0, 1, 0));
            CHECK.holds("the last count of " + told, field.caught(1, told, 0, 1, 0));
            CHECK.argument("the count -1", () -> field.caught(1, -1, 0, 1, 0));
            CHECK.argument("one count more than " + told, () -> field.caught(1, told + 1, 0, 1, 0));
        }
    }

    private static void onTheSpot() {
        CHECK.sentence("Promise 18: its counts are marked on the spot.");
        DrillField field = Scenes.lines(2, row(500, 500, 1600, 840));
        for (int count = 0; count <= 1; count++) {
            CHECK.holds("the first part", field.caught(0, count, 1, 9, 0));
            CHECK.holds("at the edge of the field, in the wind", field.caught(0, count, 1, 1, 10));
            CHECK.holds("at the edge of the field, in more wind", !field.caught(0, count, 1, 1, 11));
        }
    }

    private static void throwsIndexOfThePart() {
        CHECK.sentence("Promise 18: Throws IndexOutOfBoundsException as told, of the part or dot");
        int[] wrong = {Integer.MIN_VALUE, -2, -1, 4, 5, 11, 12, Integer.MAX_VALUE};
        for (int part : wrong) {
            CHECK.refusesIndex("the part " + part + " of four", Scenes::rich, field -> field.caught(part, 0, 0, 1, 0));
        }
        CHECK.refusesIndex("a part of none", Scenes::nothing, field -> field.caught(0, 0, 0, 1, 0));
        DrillField field = Check.told(Scenes::allParts);
        CHECK.holds("the part 11", field.caught(11, 13, 0, 1, 0));
        CHECK.index("the part 12", () -> field.caught(12, 0, 0, 1, 0));
        field.cut();
        CHECK.index("a part that was cut", () -> field.caught(11, 13, 0, 1, 0));
    }

    private static void throwsIndexOfTheDot() {
        CHECK.sentence("Promise 18: Throws IndexOutOfBoundsException as told, of the part or dot");
        int[] wrong = {Integer.MIN_VALUE, -2, -1, 5, 6, 10, Integer.MAX_VALUE};
        for (int dot : wrong) {
            CHECK.refusesIndex("the dot " + dot + " of five", Scenes::rich, field -> field.caught(1, 0, dot, 1, 0));
        }
        CHECK.refusesIndex("both", Scenes::rich, field -> field.caught(4, 0, 5, 1, 0));
        DrillField ten = Scenes.lines(10, row(0, 0, 900, 0));
        CHECK.holds("the dot 9", ten.caught(0, 0, 9, 1, 0));
        CHECK.index("the dot 10", () -> ten.caught(0, 0, 10, 1, 0));
    }

    private static void throwsArgument() {
        CHECK.sentence("Promise 18: Throws IllegalArgumentException as told");
        int[] wrongCounts = {Integer.MIN_VALUE, -1, 7, 8, 64, 65, Integer.MAX_VALUE};
        for (int count : wrongCounts) {
            CHECK.refusesArgument("the count " + count + " of 6", Scenes::rich, field -> field.caught(1, count, 0, 1,
                    0));
        }
        int[] wrongHeights = {Integer.MIN_VALUE, -1, 0, 10, 11, Integer.MAX_VALUE};
        for (int height : wrongHeights) {
            CHECK.refusesArgument("the height " + height, Scenes::rich, field -> field.caught(1, 0, 0, height, 0));
        }
        int[] wrongWinds = {Integer.MIN_VALUE, -22, -21, 21, 22, Integer.MAX_VALUE};
        for (int wind : wrongWinds) {
            CHECK.refusesArgument("the wind " + wind, Scenes::rich, field -> field.caught(1, 0, 0, 1, wind));
        }
    }

    private static void throwsState() {
        CHECK.sentence("Promise 18: Throws IllegalStateException if the dot does not march");
        CHECK.refusesState("an ill dot whose alternate is ill", Scenes::rich, field -> field.caught(1, 0, 2, 1, 0));
        CHECK.refusesState("an ill dot without an alternate", Promise18CaughtTest::richWithAnIllDot,
                field -> field.caught(0, 0, 0, 1, 0));
        DrillField field = Check.told(Scenes::rich);
        CHECK.holds("an ill dot whose alternate is well", field.caught(0, 0, 1, 1, 0));
        CHECK.holds("a dot that is well", field.caught(0, 0, 0, 1, 0));
    }

    private static void richWithAnIllDot(DrillField field) {
        Scenes.rich(field);
        field.ill(0, true);
    }

    private static void whoMarches() {
        CHECK.sentence("Promise 18: A dot marches, if it is not ill, or an alternate who is not ill knows its place");
        DrillField field = Scenes.lines(2, row(500, 500, 0, 0));
        field.ill(0, true);
        CHECK.state("ill", () -> field.caught(0, 0, 0, 1, 0));
        for (int alternate = 0; alternate <= 2; alternate++) {
            int asked = alternate;
            field.alternate(alternate, 0, true);
            CHECK.state("the ill alternate " + asked, () -> field.caught(0, 0, 0, 1, 0));
            field.alternate(alternate, 0, false);
            CHECK.holds("the alternate " + alternate, field.caught(0, 0, 0, 1, 0));
            field.alternate(alternate, 1, false);
            CHECK.state("he knows the other place", () -> field.caught(0, 0, 0, 1, 0));
        }
        field.ill(0, false);
        CHECK.holds("well", field.caught(0, 0, 0, 1, 0));
    }

    private static void firstOfSeveralExceptions() {
        CHECK.sentence("Promise 18: When a call throws, nothing has changed; of several exceptions it is the first one "
                + "of the throws clause.");
        CHECK.refusesIndex("a wrong part and count", Scenes::rich, field -> field.caught(4, -1, 0, 1, 0));
        CHECK.refusesIndex("a wrong part, an ill dot", Scenes::rich, field -> field.caught(-1, 0, 2, 1, 0));
        CHECK.refusesIndex("a wrong dot and height", Scenes::rich, field -> field.caught(0, 0, 5, 0, 0));
        CHECK.refusesIndex("a wrong dot and wind", Scenes::rich, field -> field.caught(0, 0, -1, 1, 21));
        CHECK.refusesArgument("a wrong count, an ill dot", Scenes::rich, field -> field.caught(1, 7, 2, 1, 0));
        CHECK.refusesArgument("a wrong height, an ill dot", Scenes::rich, field -> field.caught(1, 0, 2, 10, 0));
        CHECK.refusesArgument("a wrong wind, an ill dot", Scenes::rich, field -> field.caught(1, 0, 2, 1, -21));
    }
}
