/** Promise 4, ill: each sentence that names a boundary, at it and one step beyond it. */
public final class Promise04IllTest {
    private static final Check CHECK = new Check("Promise04IllTest");

    public static void main(String[] args) {
        illOrWell();
        returnsWhetherItMarches();
        marchesWithAnAlternate();
        throwsIndex();
        nothingHasChanged();
        CHECK.end();
    }

    private static void illOrWell() {
        CHECK.sentence("Promise 4: Lets a dot be ill, or well.");
        DrillField field = Scenes.lines(2, Scenes.row(0, 0, 300, 0));
        field.ill(0, true);
        CHECK.state("who is ill has no toss", () -> field.caught(0, 0, 0, 1, 0));
        CHECK.holds("the other is well", field.caught(0, 0, 1, 1, 0));
        field.ill(0, false);
        CHECK.holds("who is well again catches", field.caught(0, 0, 0, 1, 0));
        field.ill(0, false);
        CHECK.holds("who is well stays so", field.caught(0, 0, 0, 1, 0));
    }

    private static void returnsWhetherItMarches() {
        CHECK.sentence("Promise 4: Returns whether it marches then.");
        for (int dots = 2; dots <= 10; dots++) {
            DrillField field = Scenes.withDots(dots);
            for (int dot = 0; dot < dots; dot++) {
                CHECK.holds("the dot " + dot + " ill", !field.ill(dot, true));
                CHECK.holds("the dot " + dot + " ill again", !field.ill(dot, true));
            }
            for (int dot = 0; dot < dots; dot++) {
                CHECK.holds("the dot " + dot + " well", field.ill(dot, false));
            }
        }
    }

    private static void marchesWithAnAlternate() {
        CHECK.sentence("Promise 4: A dot marches, if it is not ill, or an alternate who is not ill knows its place");
        for (int alternate = 0; alternate <= 2; alternate++) {
            DrillField field = Scenes.withDots(10);
            field.alternate(alternate, 9, false);
            CHECK.holds("a well alternate", field.ill(9, true));
            CHECK.holds("of no other place", !field.ill(8, true));
            field.alternate(alternate, 9, true);
            CHECK.holds("an ill alternate", !field.ill(9, true));
            CHECK.holds("well, with an ill alternate", field.ill(9, false));
            field.alternate(alternate, 0, false);
            CHECK.holds("an alternate of the dot 0", field.ill(0, true));
            CHECK.holds("no more of the dot 9", !field.ill(9, true));
        }
        DrillField field = new DrillField();
        field.alternate(0, 3, true);
        field.alternate(1, 3, true);
        CHECK.holds("two ill alternates", !field.ill(3, true));
        field.alternate(2, 3, false);
        CHECK.holds("a third one, who is well", field.ill(3, true));
    }

    private static void throwsIndex() {
        CHECK.sentence("Promise 4: Throws IndexOutOfBoundsException as told");
        int[] wrong = {Integer.MIN_VALUE, -2, -1, 5, 6, 10, Integer.MAX_VALUE};
        for (int dot : wrong) {
            CHECK.refusesIndex("ill(" + dot + ", true) of five", Scenes::rich, field -> field.ill(dot, true));
            CHECK.refusesIndex("ill(" + dot + ", false) of five", Scenes::rich, field -> field.ill(dot, false));
        }
        DrillField field = Check.told(Scenes::rich);
        CHECK.holds("the dot 0", !field.ill(0, true));
        CHECK.holds("the dot 4", !field.ill(4, true));
    }

    private static void nothingHasChanged() {
        CHECK.sentence("Promise 4: When a call throws, nothing has changed");
        CHECK.refusesIndex("a dot beside of all that is told", Scenes::rich, field -> field.ill(5, true));
        CHECK.refusesIndex("a dot beside of a new object", Scenes::nothing, field -> field.ill(4, true));
        CHECK.refusesIndex("a dot beside of two", Scenes::allParts, field -> field.ill(2, true));
    }
}
