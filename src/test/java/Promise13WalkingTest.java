/** Promise 13, walking: each sentence that names a boundary, at it and one step beyond it. */
public final class Promise13WalkingTest {
    private static final Check CHECK = new Check("Promise13WalkingTest");

    public static void main(String[] args) {
        allSquaresTogether();
        leastAndGreatest();
        firstPart();
        allDots();
        noMoreDotsThanTold();
        throwsIndex();
        nothingHasChanged();
        CHECK.end();
    }

    private static void allSquaresTogether() {
        CHECK.sentence("Promise 13: Returns all squares of ways of a part, together.");
        DrillField field = Scenes.lines(3, Scenes.row(10, 10, 30, 30), Scenes.row(13, 14, 33, 34), Scenes.row(12, 14,
                20, 34),
                Scenes.row(12, 14, 20, 34));
        CHECK.due("three ways of 3 and 4", field.walking(1), 3 * (9 + 16));
        CHECK.due("ways back", field.walking(2), 1 + 7 * 7 + 13 * 13);
        CHECK.due("no ways", field.walking(3), 0);
        field.change(1, 1, 64, 240, false);
        CHECK.due("counts and tempo do not matter", field.walking(1), 75);
    }

    private static void leastAndGreatest() {
        CHECK.sentence("Promise 13: Returns all squares of ways of a part, together.");
        DrillField field = Scenes.lines(10, Scenes.row(0, 0, 0, 0), Scenes.row(1600, 840, 1600, 840), Scenes.row(1600,
                840, 1599, 840));
        CHECK.due("from corner to corner, ten dots", field.walking(1), 10L * (1600 * 1600 + 840 * 840));
        CHECK.due("all but the first one tenth", field.walking(2), 9);
        field.change(2, 1, 1, 60, true);
        CHECK.due("all stay", field.walking(2), 0);
        DrillField two = Scenes.lines(2, Scenes.row(0, 0, 0, 0), Scenes.row(0, 0, 0, 1));
        CHECK.due("one dot one tenth", two.walking(1), 1);
    }

    private static void firstPart() {
        CHECK.sentence("Promise 13: the first part has its set from the beginning on, and its counts are marked "
                + "on the spot.");
        DrillField field = Scenes.lines(2, Scenes.row(1600, 840, 0, 0));
        CHECK.due("the first part", field.walking(0), 0);
        field.change(0, 0, 64, 60, true);
        CHECK.due("the first part with LEAST", field.walking(0), 0);
    }

    private static void allDots() {
        CHECK.sentence("Promise 13: A dot is ill, or not.");
        DrillField field = Scenes.lines(2, Scenes.row(0, 0, 100, 0), Scenes.row(0, 10, 100, 20));
        CHECK.due("both are well", field.walking(1), 500);
        field.ill(1, true);
        CHECK.due("one is ill", field.walking(1), 500);
        field.ill(0, true);
        CHECK.due("both are ill", field.walking(1), 500);
    }

    private static void noMoreDotsThanTold() {
        CHECK.sentence("Promise 13: a set has a place for each dot");
        DrillField field = Scenes.withDots(10);
        CHECK.argument("ten dots, the last place beside the field", () -> field.line(0, 0, 1601, 0));
        CHECK.argument("ten dots, the last place beside the field", () -> field.block(800, 400, 1, 100));
        field.band(2);
        field.line(0, 0, 100, 0);
        field.part(0, 4, 60, false);
        field.part(0, 4, 60, true);
        CHECK.due("two dots in the first part", field.walking(0), 0);
        CHECK.due("two dots in the next part", field.walking(1), 0);
    }

    private static void throwsIndex() {
        CHECK.sentence("Promise 13: Throws IndexOutOfBoundsException as told");
        int[] wrong = {Integer.MIN_VALUE, -2, -1, 4, 5, 11, 12, Integer.MAX_VALUE};
        for (int part : wrong) {
            CHECK.refusesIndex("walking(" + part + ") of four parts", Scenes::rich, field -> field.walking(part));
        }
        CHECK.refusesIndex("walking(0) of no part", Scenes::nothing, field -> field.walking(0));
        DrillField field = Check.told(Scenes::allParts);
        CHECK.due("the part 0", field.walking(0), 0);
        CHECK.holds("the part 11", field.walking(11) > 0);
        CHECK.index("the part 12", () -> field.walking(12));
        field.cut();
        CHECK.index("a part that was cut", () -> field.walking(11));
    }

    private static void nothingHasChanged() {
        CHECK.sentence("Promise 13: When a call throws, nothing has changed");
        CHECK.refusesIndex("a part beside", Scenes::allParts, field -> field.walking(12));
        CHECK.refusesIndex("a part ahead", Scenes::allParts, field -> field.walking(-1));
    }
}
