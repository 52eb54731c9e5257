/** Promise 14, at: each sentence that names a boundary, at it and one step beyond it. */
public final class Promise14AtTest {
    private static final Check CHECK = new Check("Promise14AtTest");

    public static void main(String[] args) {
        xAndYTogether();
        countOfThePart();
        roundedDown();
        downBelowZero();
        fromWhereItWas();
        onTheSpot();
        whoIsIll();
        throwsIndexOfThePart();
        throwsIndexOfTheDot();
        throwsArgument();
        firstOfSeveralExceptions();
        CHECK.end();
    }

    private static void xAndYTogether() {
        CHECK.sentence("Promise 14: Returns where a dot is: 2000 times x, and y, together.");
        DrillField field = Scenes.lines(2, Scenes.row(0, 0, 1600, 840), Scenes.row(0, 840, 1600, 0), Scenes.row(1, 0,
                0, 1));
        CHECK.due("the first corner", field.at(0, 0, 0), 0);
        CHECK.due("the last corner", field.at(0, 0, 1), 3_200_840);
        CHECK.due("the corner behind", field.at(1, 1, 0), 840);
        CHECK.due("the corner on the right", field.at(1, 1, 1), 3_200_000);
        CHECK.due("x 1", field.at(2, 1, 0), 2000);
        CHECK.due("y 1", field.at(2, 1, 1), 1);
    }

    private static void countOfThePart() {
        CHECK.sentence("Promise 14: count: 0 to the counts of the part");
        int[] counts = {1, 2, 63, 64};
        for (int told : counts) {
            DrillField field = Scenes.twoDots(told, 60, Scenes.row(100, 100, 0, 0), Scenes.row(100 + told, 100 - told,
                    0, 0));
            Scenes.stands(CHECK, "the count 0 of " + told, field, 1, 0, 0, 100, 100);
            Scenes.stands(CHECK, "the count 1 of " + told, field, 1, 1, 0, 101, 99);
            Scenes.stands(CHECK, "the last count of " + told, field, 1, told, 0, 100 + told, 100 - told);
            CHECK.argument("the count -1 of " + told, () -> field.at(1, -1, 0));
            CHECK.argument("one count more than " + told, () -> field.at(1, told + 1, 0));
        }
        CHECK.refusesArgument("the count -1", Scenes::rich, field -> field.at(1, -1, 0));
        CHECK.refusesArgument("the count 7 of 6", Scenes::rich, field -> field.at(1, 7, 0));
    }

    private static void roundedDown() {
        CHECK.sentence("Promise 14: In a part of c counts a dot is, at the count k, 0 to c, at: where it was, "
                + "and k times the way, by c, rounded down, for both numbers.");
        DrillField field = Scenes.twoDots(64, 60, Scenes.row(0, 0, 0, 0), Scenes.row(63, 65, 1600, 840));
        int[][] due = {{0, 0, 0}, {1, 0, 1}, {2, 1, 2}, {32, 31, 32}, {62, 61, 62}, {63, 62, 63}, {64, 63, 65}};
        for (int[] row : due) {
            Scenes.stands(CHECK, "63 and 65 in 64 counts", field, 1, row[0], 0, row[1], row[2]);
        }
        Scenes.stands(CHECK, "1600 and 840 in 64 counts", field, 1, 63, 1, 1575, 826);
        DrillField thirds = Scenes.twoDots(3, 60, Scenes.row(0, 0, 0, 0), Scenes.row(1, 2, 3, 4));
        Scenes.stands(CHECK, "thirds", thirds, 1, 1, 0, 0, 0);
        Scenes.stands(CHECK, "thirds", thirds, 1, 2, 0, 0, 1);
        Scenes.stands(CHECK, "thirds", thirds, 1, 1, 1, 1, 1);
        Scenes.stands(CHECK, "thirds", thirds, 1, 2, 1, 2, 2);
    }

    private static void downBelowZero() {
        CHECK.sentence("Promise 14: What is rounded down goes down below 0, too.");
        DrillField field = Scenes.twoDots(64, 60, Scenes.row(63, 65, 1600, 840), Scenes.row(0, 0, 0, 0));
        int[][] due = {{0, 63, 65}, {1, 62, 63}, {2, 61, 62}, {32, 31, 32}, {62, 1, 2}, {63, 0, 1}, {64, 0, 0}};
        for (int[] row : due) {
            Scenes.stands(CHECK, "-63 and -65 in 64 counts", field, 1, row[0], 0, row[1], row[2]);
        }
        DrillField thirds = Scenes.twoDots(3, 60, Scenes.row(1, 2, 3, 4), Scenes.row(0, 0, 0, 0));
        Scenes.stands(CHECK, "thirds", thirds, 1, 1, 0, 0, 1);
        Scenes.stands(CHECK, "thirds", thirds, 1, 2, 0, 0, 0);
        Scenes.stands(CHECK, "thirds", thirds, 1, 1, 1, 2, 2);
        Scenes.stands(CHECK, "thirds", thirds, 1, 2, 1, 1, 1);
    }

    private static void fromWhereItWas() {
        CHECK.sentence("Promise 14: in which it is reached from the set of the part ahead");
        DrillField field = Scenes.withDots(2);
        field.line(0, 0, 100, 0);
        field.line(100, 50, 0, 50);
        field.part(0, 4, 60, false);
        field.part(1, 10, 60, true);
        Scenes.stands(CHECK, "LEAST: half of the way", field, 1, 5, 0, 0, 25);
        field.part(1, 10, 60, false);
        Scenes.stands(CHECK, "KEPT behind LEAST: from where it was", field, 2, 0, 0, 0, 50);
        Scenes.stands(CHECK, "KEPT behind LEAST: half of the way", field, 2, 5, 0, 50, 50);
        Scenes.stands(CHECK, "KEPT behind LEAST: its place", field, 2, 10, 0, 100, 50);
    }

    private static void onTheSpot() {
        CHECK.sentence("Promise 14: the first part has its set from the beginning on, and its counts are marked "
                + "on the spot.");
        DrillField field = Scenes.lines(2, Scenes.row(7, 8, 1600, 840));
        field.change(0, 0, 64, 60, true);
        for (int count = 0; count <= 64; count++) {
            Scenes.stands(CHECK, "on the spot", field, 0, count, 0, 7, 8);
            Scenes.stands(CHECK, "on the spot", field, 0, count, 1, 1600, 840);
        }
    }

    private static void whoIsIll() {
        CHECK.sentence("Promise 14: A dot is ill, or not.");
        DrillField field = Scenes.lines(2, Scenes.row(7, 8, 1600, 840));
        field.ill(0, true);
        Scenes.stands(CHECK, "who is ill has a place", field, 0, 1, 0, 7, 8);
    }

    private static void throwsIndexOfThePart() {
        CHECK.sentence("Promise 14: Throws IndexOutOfBoundsException as told, of the part or dot");
        int[] wrong = {Integer.MIN_VALUE, -1, 4, 5, 11, 12, Integer.MAX_VALUE};
        for (int part : wrong) {
            CHECK.refusesIndex("at(" + part + ", 0, 0) of four parts", Scenes::rich, field -> field.at(part, 0, 0));
        }
        CHECK.refusesIndex("at(0, 0, 0) of no part", Scenes::nothing, field -> field.at(0, 0, 0));
        DrillField field = Check.told(Scenes::allParts);
        Scenes.stands(CHECK, "the part 11", field, 11, 13, 1, 100, 110);
        field.cut();
        CHECK.index("a part that was cut", () -> field.at(11, 0, 0));
    }

    private static void throwsIndexOfTheDot() {
        CHECK.sentence("Promise 14: Throws IndexOutOfBoundsException as told, of the part or dot");
        int[] wrong = {Integer.MIN_VALUE, -1, 5, 6, 10, Integer.MAX_VALUE};
        for (int dot : wrong) {
            CHECK.refusesIndex("at(0, 0, " + dot + ") of five dots", Scenes::rich, field -> field.at(0, 0, dot));
        }
        DrillField field = Check.told(Scenes::rich);
        Scenes.stands(CHECK, "the dot 4", field, 0, 0, 4, 180, 100);
        DrillField ten = Scenes.lines(10, Scenes.row(0, 0, 900, 0));
        Scenes.stands(CHECK, "the dot 9", ten, 0, 0, 9, 900, 0);
        CHECK.index("the dot 10", () -> ten.at(0, 0, 10));
    }

    private static void throwsArgument() {
        CHECK.sentence("Promise 14: Throws IllegalArgumentException as told");
        int[] wrong = {Integer.MIN_VALUE, -2, -1, 8, 9, 64, 65, Integer.MAX_VALUE};
        for (int count : wrong) {
            CHECK.refusesArgument("the count " + count + " of 7", Scenes::rich, field -> field.at(2, count, 0));
        }
    }

    private static void firstOfSeveralExceptions() {
        CHECK.sentence("Promise 14: When a call throws, nothing has changed; of several exceptions it is the first one "
                + "of the throws clause.");
        CHECK.refusesIndex("a wrong part and count", Scenes::rich, field -> field.at(4, -1, 0));
        CHECK.refusesIndex("a wrong dot and count", Scenes::rich, field -> field.at(0, 65, 5));
        CHECK.refusesIndex("all wrong", Scenes::rich, field -> field.at(-1, -1, -1));
    }
}
