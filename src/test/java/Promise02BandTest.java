/** Promise 2, band: each sentence that names a boundary, at it and one step beyond it. */
public final class Promise02BandTest {
    private static final Check CHECK = new Check("Promise02BandTest");

    public static void main(String[] args) {
        tellsHowMany();
        twoToTen();
        numberedFromZero();
        allAreWell();
        firstLegs();
        alternatesKnowNone();
        throwsArgument();
        throwsState();
        asLongAsThereAreNoSets();
        nothingHasChanged();
        firstOfSeveralExceptions();
        CHECK.end();
    }

    private static void tellsHowMany() {
        CHECK.sentence("Promise 2: Tells how many dots there are");
        DrillField field = Scenes.withDots(7);
        field.band(3);
        CHECK.holds("the last of three", field.ill(2, false));
        CHECK.index("one more than three", () -> field.ill(3, false));
        field.band(9);
        CHECK.holds("the last of nine", field.ill(8, false));
        CHECK.index("one more than nine", () -> field.ill(9, false));
        field.line(0, 0, 800, 8);
        field.part(0, 1, 60, false);
        Scenes.stands(CHECK, "the second of nine", field, 0, 0, 1, 100, 1);
    }

    private static void twoToTen() {
        CHECK.sentence("Promise 2: dots: 2 to 10");
        for (int dots = 2; dots <= 10; dots++) {
            DrillField field = Scenes.withDots(dots);
            int beyond = dots;
            CHECK.due("legs of the last of " + dots, field.legs(dots - 1, 14), 14);
            CHECK.index("legs of one more than " + dots, () -> field.legs(beyond, 14));
        }
        CHECK.refusesArgument("band(1)", Scenes::richBand, field -> field.band(1));
        CHECK.refusesArgument("band(11)", Scenes::richBand, field -> field.band(11));
    }

    private static void numberedFromZero() {
        CHECK.sentence("Promise 2: A band has 2 to 10 dots, numbered from 0");
        for (int dots = 2; dots <= 10; dots += 8) {
            DrillField field = Scenes.withDots(dots);
            CHECK.holds("the dot 0 of " + dots, field.ill(0, false));
            CHECK.index("the dot -1 of " + dots, () -> field.ill(-1, false));
        }
    }

    private static void allAreWell() {
        CHECK.sentence("Promise 2: all are well then");
        DrillField field = Scenes.withDots(10);
        for (int dot = 0; dot < 10; dot++) {
            field.ill(dot, true);
        }
        field.band(2);
        field.band(10);
        field.line(0, 0, 900, 0);
        field.part(0, 1, 60, false);
        for (int dot = 0; dot < 10; dot++) {
            CHECK.holds("the dot " + dot + " marches", field.caught(0, 0, dot, 1, 0));
        }
    }

    private static void firstLegs() {
        CHECK.sentence("Promise 2: with first legs");
        DrillField field = Scenes.withDots(10);
        Scenes.longestLegs(field, 10);
        field.band(10);
        for (int dot = 0; dot < 10; dot++) {
            CHECK.due("legs of the dot " + dot, field.legs(dot, 40), 14);
        }
        field.band(2);
        CHECK.due("legs of the dot 1 of two", field.legs(1, 5), 14);
        field.band(10);
        CHECK.due("legs of the dot 9 again", field.legs(9, 5), 14);
    }

    private static void alternatesKnowNone() {
        CHECK.sentence("Promise 2: and alternates know none.");
        DrillField field = Scenes.withDots(10);
        field.alternate(0, 0, false);
        field.alternate(1, 1, false);
        field.alternate(2, 9, false);
        field.band(10);
        CHECK.holds("the alternate 0", !field.ill(0, true));
        CHECK.holds("the alternate 1", !field.ill(1, true));
        CHECK.holds("the alternate 2", !field.ill(9, true));
    }

    private static void throwsArgument() {
        CHECK.sentence("Promise 2: Throws IllegalArgumentException as told");
        int[] wrong = {Integer.MIN_VALUE, -1, 0, 1, 11, 12, 2 + (1 << 16), Integer.MAX_VALUE};
        for (int dots : wrong) {
            CHECK.refusesArgument("band(" + dots + ")", Scenes::richBand, field -> field.band(dots));
        }
    }

    private static void throwsState() {
        CHECK.sentence("Promise 2: Throws IllegalStateException if there are sets");
        CHECK.refusesState("band with one set", field -> field.line(0, 0, 300, 0), field -> field.band(4));
        CHECK.refusesState("band with four sets", Scenes::rich, field -> field.band(2));
        CHECK.refusesState("band with 12 sets", Scenes::allSets, field -> field.band(10));
    }

    private static void asLongAsThereAreNoSets() {
        CHECK.sentence("Promise 2: it is told as long as there are no sets.");
        DrillField field = new DrillField();
        CHECK.argument("a wrong line", () -> field.line(0, 0, 1601, 0));
        field.band(3);
        CHECK.argument("a wrong block", () -> field.block(0, 0, 0, 1));
        field.band(2);
        CHECK.argument("a wrong wedge", () -> field.wedge(0, 0, 1));
        field.band(5);
        CHECK.due("the first set", field.block(0, 0, 5, 10), 0);
        CHECK.state("band with a set", () -> field.band(5));
        field.part(0, 1, 60, false);
        field.cut();
        CHECK.state("band with a set, after the parts are cut", () -> field.band(5));
        CHECK.holds("five dots", field.ill(4, false));
    }

    private static void nothingHasChanged() {
        CHECK.sentence("Promise 2: When a call throws, nothing has changed");
        CHECK.refusesArgument("band(1) of all that is told", Scenes::rich, field -> field.band(1));
        CHECK.refusesArgument("band(11) of a new object", Scenes::nothing, field -> field.band(11));
        CHECK.refusesState("band(5) of all that is told", Scenes::rich, field -> field.band(5));
    }

    private static void firstOfSeveralExceptions() {
        CHECK.sentence("Promise 2: When a call throws, nothing has changed; of several exceptions it is the first one "
                + "of the throws clause.");
        CHECK.refusesArgument("band(1) with sets", Scenes::rich, field -> field.band(1));
        CHECK.refusesArgument("band(11) with sets", Scenes::allSets, field -> field.band(11));
    }
}
