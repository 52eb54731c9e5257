/** Promises 1 to 5: a new object, band, legs, ill, alternate. */
public final class DotsTest {
    private static final Check CHECK = new Check("DotsTest");

    public static void main(String[] args) {
        newObject();
        band();
        bandForgets();
        legs();
        ill();
        alternate();
        alternatesWhoChange();
        CHECK.end();
    }

    private static void newObject() {
        DrillField field = new DrillField();
        CHECK.due("NONE", DrillField.NONE, -1);
        CHECK.due("STEP", DrillField.STEP, 0);
        CHECK.due("NEAR", DrillField.NEAR, 1);
        CHECK.due("CROSS", DrillField.CROSS, 2);
        CHECK.due("first legs of the dot 3", field.legs(3, 14), 14);
        CHECK.index("the dot 4 of a new object", () -> field.legs(4, 14));
        CHECK.index("the set 0 of a new object", () -> field.part(0, 8, 120, false));
        CHECK.state("cut of a new object", field::cut);
        CHECK.due("lasts of a new object", field.lasts(), 0);
        CHECK.due("changed of a new object", field.changed(), 0);
        CHECK.due("publish of a new object", field.publish(), 0);
        CHECK.holds("agrees of a new object", field.agrees());
        CHECK.due("ranked of a new object", field.ranked(0), 0);
        CHECK.due("the first set", field.line(0, 0, 300, 0), 0);
        field.part(0, 1, 60, false);
        CHECK.due("of four dots the second", field.at(0, 0, 1), 2000 * 100);
    }

    private static void band() {
        for (int dots = 2; dots <= 10; dots++) {
            DrillField field = new DrillField();
            field.band(dots);
            int beyond = dots;
            CHECK.due("legs of the last of " + dots, field.legs(dots - 1, 20), 14);
            CHECK.due("new legs of the last of " + dots, field.legs(dots - 1, 14), 20);
            CHECK.holds("the last of " + dots + " is ill", !field.ill(dots - 1, true));
            field.alternate(0, dots - 1, false);
            CHECK.holds("the last of " + dots + " has an alternate", field.ill(dots - 1, true));
            CHECK.index("legs beyond " + dots, () -> field.legs(beyond, 20));
        }
        DrillField field = new DrillField();
        CHECK.argument("band(1)", () -> field.band(1));
        CHECK.argument("band(11)", () -> field.band(11));
        CHECK.argument("band(MIN)", () -> field.band(Integer.MIN_VALUE));
        CHECK.argument("band(MAX)", () -> field.band(Integer.MAX_VALUE));
        CHECK.index("four dots after wrong bands", () -> field.ill(4, true));
        field.line(0, 0, 300, 0);
        CHECK.state("band with a set", () -> field.band(4));
        CHECK.argument("a wrong band with a set", () -> field.band(11));
    }

    private static void bandForgets() {
        DrillField field = new DrillField();
        field.legs(1, 40);
        field.ill(0, true);
        field.ill(1, true);
        field.alternate(0, 1, false);
        CHECK.argument("band(0)", () -> field.band(0));
        CHECK.due("legs after a wrong band", field.legs(1, 39), 40);
        CHECK.holds("the alternate stays after a wrong band", field.ill(1, true));
        field.band(4);
        CHECK.due("legs after band", field.legs(1, 14), 14);
        CHECK.holds("alternates know none after band", !field.ill(1, true));
        field.band(4);
        field.line(0, 0, 300, 0);
        field.part(0, 4, 60, false);
        CHECK.holds("all are well after band", field.caught(0, 0, 0, 1, 0) && field.caught(0, 0, 1, 1, 0));
    }

    private static void legs() {
        DrillField field = new DrillField();
        CHECK.due("legs(2, 5)", field.legs(2, 5), 14);
        CHECK.due("legs(2, 40)", field.legs(2, 40), 5);
        CHECK.argument("legs(2, 4)", () -> field.legs(2, 4));
        CHECK.argument("legs(2, 41)", () -> field.legs(2, 41));
        CHECK.due("legs after wrong ones", field.legs(2, 6), 40);
        CHECK.due("legs of another dot", field.legs(1, 7), 14);
        CHECK.index("legs(-1, 10)", () -> field.legs(-1, 10));
        CHECK.index("legs(4, 99)", () -> field.legs(4, 99));
        CHECK.index("legs(MIN, 10)", () -> field.legs(Integer.MIN_VALUE, 10));
        CHECK.index("legs(MAX, 10)", () -> field.legs(Integer.MAX_VALUE, 10));
    }

    private static void ill() {
        DrillField field = new DrillField();
        CHECK.holds("well dots march", field.ill(3, false));
        CHECK.holds("ill dots don't", !field.ill(3, true));
        CHECK.holds("others do", field.ill(2, false));
        CHECK.holds("well again", field.ill(3, false));
        CHECK.index("ill(4)", () -> field.ill(4, true));
        CHECK.index("ill(NONE)", () -> field.ill(DrillField.NONE, true));
    }

    private static void alternate() {
        DrillField field = new DrillField();
        for (int alternate = 0; alternate < 3; alternate++) {
            field.alternate(alternate, 2, false);
            CHECK.holds("the alternate " + alternate + " marches", field.ill(2, true));
            CHECK.holds("for no other", !field.ill(1, true));
            field.alternate(alternate, 2, true);
            CHECK.holds("the alternate " + alternate + " is ill", !field.ill(2, true));
            field.alternate(alternate, DrillField.NONE, false);
            CHECK.holds("the alternate " + alternate + " knows none", !field.ill(2, true));
        }
        CHECK.index("alternate(3)", () -> field.alternate(3, 0, false));
        CHECK.index("alternate(-1)", () -> field.alternate(-1, 0, false));
        CHECK.index("alternate of the dot 4", () -> field.alternate(0, 4, false));
        CHECK.index("alternate of the dot -2", () -> field.alternate(0, -2, false));
        CHECK.index("alternate of the dot MIN", () -> field.alternate(0, Integer.MIN_VALUE, false));
    }

    private static void alternatesWhoChange() {
        DrillField field = new DrillField();
        field.alternate(0, 1, true);
        field.alternate(1, 1, false);
        CHECK.holds("one of two alternates is well", field.ill(1, true));
        field.alternate(1, 0, false);
        CHECK.holds("he now knows another place", !field.ill(1, true));
        CHECK.holds("and marches there", field.ill(0, true));
        CHECK.index("a wrong dot", () -> field.alternate(1, 9, true));
        CHECK.holds("changes nothing", field.ill(0, true));
    }
}
