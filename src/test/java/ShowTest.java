/** Promises 9 to 14: part, change, cut, place, walking, at. */
public final class ShowTest {
    private static final Check CHECK = new Check("ShowTest");

    public static void main(String[] args) {
        partRange();
        firstPart();
        kept();
        least();
        leastOfSeveral();
        change();
        changeRange();
        cut();
        twelveParts();
        at();
        CHECK.end();
    }

    /** Four dots; the set 1 is the set 0 with the places in reverse. */
    private static DrillField twoLines() {
        DrillField field = new DrillField();
        field.line(100, 100, 400, 100);
        field.line(400, 100, 100, 100);
        return field;
    }

    private static void places(String what, DrillField field, int part, int... places) {
        for (int dot = 0; dot < places.length; dot++) {
            CHECK.due(what + ", the place of the dot " + dot, field.place(part, dot), places[dot]);
        }
    }

    private static void partRange() {
        DrillField field = twoLines();
        CHECK.index("the set 2", () -> field.part(2, 8, 120, true));
        CHECK.index("the set -1", () -> field.part(-1, 8, 120, true));
        CHECK.index("the set 2 with wrong counts", () -> field.part(2, 0, 120, true));
        CHECK.argument("no counts", () -> field.part(0, 0, 120, true));
        CHECK.argument("65 counts", () -> field.part(0, 65, 120, true));
        CHECK.argument("the tempo 59", () -> field.part(0, 8, 59, true));
        CHECK.argument("the tempo 241", () -> field.part(0, 8, 241, true));
        CHECK.state("no part has come of it", field::cut);
        CHECK.due("the first part", field.part(0, 1, 60, true), 0);
        CHECK.due("the next part", field.part(1, 64, 240, false), 1);
        CHECK.index("a place of the part 2", () -> field.place(2, 0));
        CHECK.index("a place of the part -1", () -> field.place(-1, 0));
        CHECK.index("a place of the dot 4", () -> field.place(0, 4));
        CHECK.index("a place of the dot -1", () -> field.place(0, -1));
        CHECK.index("walking of the part 2", () -> field.walking(2));
        CHECK.index("walking of the part -1", () -> field.walking(-1));
        CHECK.index("walking of the part MAX", () -> field.walking(Integer.MAX_VALUE));
    }

    private static void firstPart() {
        DrillField field = twoLines();
        field.part(1, 8, 120, true);
        places("LEAST in the first part", field, 0, 0, 1, 2, 3);
        CHECK.due("walking of the first part", field.walking(0), 0);
        for (int count = 0; count <= 8; count++) {
            CHECK.due("on the spot", field.at(0, count, 0), 2000 * 400 + 100);
            CHECK.due("on the spot", field.at(0, count, 3), 2000 * 100 + 100);
        }
    }

    private static void kept() {
        DrillField field = twoLines();
        field.part(0, 8, 120, false);
        field.part(1, 8, 120, false);
        places("KEPT", field, 1, 0, 1, 2, 3);
        CHECK.due("walking KEPT", field.walking(1), 2 * 300 * 300 + 2 * 100 * 100);
    }

    private static void least() {
        DrillField field = twoLines();
        field.wedge(700, 100, 30);
        field.part(0, 8, 120, true);
        field.part(1, 8, 120, true);
        places("LEAST", field, 1, 3, 2, 1, 0);
        CHECK.due("walking LEAST", field.walking(1), 0);
        field.part(0, 8, 120, true);
        places("LEAST again", field, 2, 0, 1, 2, 3);
        field.ill(0, true);
        field.change(1, 1, 8, 120, true);
        places("the ill have places, too", field, 1, 3, 2, 1, 0);
    }

    /** Squares, and not ways: one long way is worse than two that are shorter. */
    private static void leastOfSeveral() {
        DrillField field = new DrillField();
        field.band(2);
        field.line(0, 0, 100, 0);
        field.line(100, 0, 200, 0);
        field.line(50, 50, 50, 0);
        field.line(50, 0, 50, 50);
        field.part(0, 8, 120, true);
        field.part(1, 8, 120, true);
        places("two shorter ways", field, 1, 0, 1);
        CHECK.due("their squares", field.walking(1), 20000);
        field.change(1, 2, 8, 120, true);
        places("of as many the lowest place", field, 1, 0, 1);
        field.change(1, 3, 8, 120, true);
        places("of as many the lowest place", field, 1, 0, 1);
        DrillField ten = new DrillField();
        ten.band(10);
        ten.line(800, 0, 800, 0);
        ten.line(0, 800, 0, 800);
        ten.line(0, 400, 900, 400);
        ten.part(0, 8, 120, true);
        ten.part(1, 8, 120, true);
        places("all are one", ten, 1, 0, 1, 2, 3, 4, 5, 6, 7, 8, 9);
        ten.part(2, 8, 120, true);
        places("from one place", ten, 2, 0, 1, 2, 3, 4, 5, 6, 7, 8, 9);
        CHECK.holds("agrees", ten.agrees() && field.agrees());
    }

    private static void change() {
        DrillField field = twoLines();
        field.part(0, 8, 120, true);
        field.part(0, 8, 120, true);
        field.part(0, 8, 120, false);
        field.change(0, 1, 4, 60, false);
        places("found anew", field, 1, 3, 2, 1, 0);
        CHECK.due("where it starts", field.at(1, 0, 0), 2000 * 400 + 100);
        places("the later one is KEPT", field, 2, 0, 1, 2, 3);
        CHECK.due("walking of the later one", field.walking(2), 2 * 300 * 300 + 2 * 100 * 100);
        field.change(1, 0, 16, 240, false);
        places("now KEPT", field, 1, 0, 1, 2, 3);
        CHECK.due("walking, KEPT", field.walking(1), 200000);
        CHECK.due("counts are changed", field.at(1, 16, 0), 2000 * 100 + 100);
        CHECK.due("the tempo is changed", field.lasts(), 40 + 40 + 40);
    }

    private static void changeRange() {
        DrillField field = twoLines();
        field.part(0, 8, 120, false);
        field.part(1, 8, 120, false);
        CHECK.index("the part 2", () -> field.change(2, 0, 8, 120, true));
        CHECK.index("the part -1", () -> field.change(-1, 0, 8, 120, true));
        CHECK.index("the set 2", () -> field.change(1, 2, 8, 120, true));
        CHECK.index("the set -1", () -> field.change(1, -1, 0, 120, true));
        CHECK.argument("no counts", () -> field.change(1, 0, 0, 120, true));
        CHECK.argument("65 counts", () -> field.change(1, 0, 65, 120, true));
        CHECK.argument("the tempo 59", () -> field.change(1, 0, 8, 59, true));
        CHECK.argument("the tempo 241", () -> field.change(1, 0, 8, 241, true));
        CHECK.due("nothing has changed", field.walking(1), 200000);
        CHECK.due("nothing has changed", field.lasts(), 80);
    }

    private static void cut() {
        DrillField field = twoLines();
        field.part(0, 8, 120, false);
        field.part(1, 8, 120, false);
        CHECK.due("cut", field.cut(), 1);
        CHECK.index("the part is gone", () -> field.place(1, 0));
        CHECK.due("cut", field.cut(), 0);
        CHECK.index("the part is gone", () -> field.place(0, 0));
        CHECK.state("nothing to cut", field::cut);
        CHECK.due("a part again", field.part(1, 2, 120, true), 0);
        CHECK.due("from its set", field.at(0, 0, 0), 2000 * 400 + 100);
    }

    private static void twelveParts() {
        DrillField field = twoLines();
        for (int part = 0; part < 12; part++) {
            CHECK.due("the number of the part", field.part(part % 2, 1 + part, 60 + part, true), part);
        }
        CHECK.state("a part too many", () -> field.part(0, 8, 120, true));
        CHECK.argument("a wrong part too many", () -> field.part(0, 65, 120, true));
        CHECK.index("a part too many of no set", () -> field.part(2, 65, 120, true));
        field.change(0, 1, 1, 60, true);
        places("all are found anew", field, 11, 0, 1, 2, 3);
        places("all are found anew", field, 10, 3, 2, 1, 0);
        CHECK.due("cut", field.cut(), 11);
        CHECK.due("the last part again", field.part(0, 8, 120, false), 11);
    }

    private static void at() {
        DrillField field = new DrillField();
        field.band(2);
        field.line(100, 100, 90, 90);
        field.line(110, 95, 80, 100);
        field.part(0, 3, 120, false);
        field.part(1, 3, 120, false);
        int[] xs = {100, 103, 106, 110};
        int[] ys = {100, 98, 96, 95};
        for (int count = 0; count <= 3; count++) {
            CHECK.due("at the count " + count, field.at(1, count, 0), 2000 * xs[count] + ys[count]);
        }
        CHECK.due("rounded down below 0", field.at(1, 1, 1), 2000 * 86 + 93);
        CHECK.argument("the count -1", () -> field.at(1, -1, 0));
        CHECK.argument("the count 4", () -> field.at(1, 4, 0));
        CHECK.argument("the count MAX", () -> field.at(1, Integer.MAX_VALUE, 0));
        CHECK.index("the part 2", () -> field.at(2, 0, 0));
        CHECK.index("the part -1", () -> field.at(-1, 9, 0));
        CHECK.index("the dot 2 at a wrong count", () -> field.at(1, 4, 2));
        CHECK.index("the dot -1", () -> field.at(1, 0, -1));
    }
}
