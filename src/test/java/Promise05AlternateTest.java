/** Promise 5, alternate: each sentence that names a boundary, at it and one step beyond it. */
public final class Promise05AlternateTest {
    private static final Check CHECK = new Check("Promise05AlternateTest");

    public static void main(String[] args) {
        tellsPlaceAndIllness();
        alternatesZeroToTwo();
        aDotOrNone();
        oneDotOrNone();
        marchesByTheDotsLegs();
        throwsIndexOfBoth();
        nothingHasChanged();
        CHECK.end();
    }

    private static void tellsPlaceAndIllness() {
        CHECK.sentence("Promise 5: Tells which dot's place an alternate knows, and whether he is ill.");
        DrillField field = new DrillField();
        field.alternate(0, 1, false);
        CHECK.holds("he marches for the dot 1", field.ill(1, true));
        field.alternate(0, 1, true);
        CHECK.holds("he is ill", !field.ill(1, true));
        field.alternate(0, 1, false);
        CHECK.holds("he is well again", field.ill(1, true));
        field.line(0, 0, 300, 0);
        field.part(0, 1, 60, false);
        CHECK.holds("he catches", field.caught(0, 0, 1, 1, 0));
        field.alternate(0, 2, false);
        CHECK.state("he now knows another place", () -> field.caught(0, 0, 1, 1, 0));
    }

    private static void alternatesZeroToTwo() {
        CHECK.sentence("Promise 5: alternate: 0 to 2");
        for (int alternate = 0; alternate <= 2; alternate++) {
            DrillField field = new DrillField();
            field.alternate(alternate, 3, false);
            CHECK.holds("the alternate " + alternate, field.ill(3, true));
        }
        CHECK.refusesIndex("alternate(-1)", Scenes::rich, field -> field.alternate(-1, 0, false));
        CHECK.refusesIndex("alternate(3)", Scenes::rich, field -> field.alternate(3, 0, false));
    }

    private static void aDotOrNone() {
        CHECK.sentence("Promise 5: dot: a dot; NONE for none");
        DrillField field = Check.told(Scenes::richBand);
        field.alternate(0, 0, false);
        CHECK.holds("the dot 0", field.ill(0, true));
        field.alternate(0, 4, false);
        CHECK.holds("the dot 4", field.ill(4, true));
        CHECK.holds("no more the dot 0", !field.ill(0, true));
        field.alternate(0, DrillField.NONE, false);
        CHECK.holds("none", !field.ill(4, true));
        field.alternate(0, DrillField.NONE, true);
        CHECK.holds("none, who is ill", !field.ill(4, true));
        CHECK.refusesIndex("the dot 5 of five", Scenes::rich, other -> other.alternate(0, 5, false));
        CHECK.refusesIndex("the dot -2", Scenes::rich, other -> other.alternate(0, -2, false));
    }

    private static void oneDotOrNone() {
        CHECK.sentence("Promise 5: There are the alternates 0 to 2; each knows the place of one dot, or of none");
        DrillField field = new DrillField();
        for (int dot = 0; dot < 4; dot++) {
            field.ill(dot, true);
        }
        for (int alternate = 0; alternate <= 2; alternate++) {
            field.alternate(alternate, alternate, false);
        }
        for (int dot = 0; dot < 4; dot++) {
            CHECK.due("the dot " + dot + ", three of four having alternates", field.ill(dot, true) ? 1 : 0,
                    dot < 3 ? 1 : 0);
        }
        for (int alternate = 0; alternate <= 2; alternate++) {
            field.alternate(alternate, 3, alternate > 0);
        }
        for (int dot = 0; dot < 4; dot++) {
            CHECK.due("the dot " + dot + ", all knowing the last place", field.ill(dot, true) ? 1 : 0,
                    dot == 3 ? 1 : 0);
        }
        field.alternate(0, DrillField.NONE, false);
        CHECK.holds("the two others are ill", !field.ill(3, true));
    }

    private static void marchesByTheDotsLegs() {
        CHECK.sentence("Promise 5: (steps are by the legs of the dot in any case).");
        DrillField field = Scenes.twoDots(1, 120, Scenes.row(0, 0, 200, 0), Scenes.row(20, 0, 200, 0));
        field.alternate(2, 0, false);
        field.ill(0, true);
        field.legs(0, 20);
        Scenes.noFault(CHECK, "a step as long as the dot's legs", field, 1);
        field.legs(0, 19);
        Scenes.fault(CHECK, "a step one longer", field, 1, 1, DrillField.STEP, 0, DrillField.NONE);
        field.alternate(2, 0, true);
        Scenes.noFault(CHECK, "nobody makes the step", field, 1);
    }

    private static void throwsIndexOfBoth() {
        CHECK.sentence("Promise 5: Throws IndexOutOfBoundsException as told, of both");
        int[] wrongAlternates = {Integer.MIN_VALUE, -2, -1, 3, 4, Integer.MAX_VALUE};
        for (int alternate : wrongAlternates) {
            CHECK.refusesIndex("alternate(" + alternate + ", 1, false)", Scenes::rich,
                    field -> field.alternate(alternate, 1, false));
            CHECK.refusesIndex("alternate(" + alternate + ", NONE, true)", Scenes::rich,
                    field -> field.alternate(alternate, DrillField.NONE, true));
        }
        int[] wrongDots = {Integer.MIN_VALUE, -3, -2, 5, 6, 10, Integer.MAX_VALUE};
        for (int dot : wrongDots) {
            for (int alternate = 0; alternate <= 2; alternate++) {
                int told = alternate;
                CHECK.refusesIndex("alternate(" + alternate + ", " + dot + ", false)", Scenes::rich,
                        field -> field.alternate(told, dot, false));
            }
        }
        CHECK.refusesIndex("both wrong", Scenes::rich, field -> field.alternate(3, 5, true));
    }

    private static void nothingHasChanged() {
        CHECK.sentence("Promise 5: When a call throws, nothing has changed");
        CHECK.refusesIndex("an alternate beside", Scenes::rich, field -> field.alternate(3, 1, true));
        CHECK.refusesIndex("a dot beside, for one who knew a place", Scenes::rich, field -> field.alternate(0, 5,
                true));
        CHECK.refusesIndex("a dot beside of a new object", Scenes::nothing, field -> field.alternate(0, 4, false));
        CHECK.refusesIndex("a dot beside of two", Scenes::allParts, field -> field.alternate(2, 2, false));
    }
}
