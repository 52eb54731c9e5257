/** Promise 12, place: each sentence that names a boundary, at it and one step beyond it. */
public final class Promise12PlaceTest {
    private static final Check CHECK = new Check("Promise12PlaceTest");

    public static void main(String[] args) {
        whichPlaceOfItsSet();
        kept();
        eachToOnePlace();
        squaresTogetherAreLeast();
        dotZeroHasTheLowest();
        thenTheDotOne();
        allAtOneSpot();
        firstPartIsKept();
        whoIsIllHasAPlace();
        throwsIndexOfThePart();
        throwsIndexOfTheDot();
        nothingHasChanged();
        CHECK.end();
    }

    private static void places(String what, DrillField field, int part, int... places) {
        for (int dot = 0; dot < places.length; dot++) {
            CHECK.due(what + ", the place of the dot " + dot, field.place(part, dot), places[dot]);
        }
        CHECK.holds(what + ", agrees", field.agrees());
    }

    /** Two parts: the part 1 goes to its set with LEAST. */
    private static DrillField least(DrillField field) {
        field.part(0, 4, 60, false);
        field.part(1, 4, 60, true);
        return field;
    }

    private static void whichPlaceOfItsSet() {
        CHECK.sentence("Promise 12: Returns which place of its set a dot has in a part.");
        DrillField field = Scenes.withDots(10);
        field.line(100, 0, 1000, 0);
        field.line(1000, 0, 100, 0);
        least(field);
        places("the first part", field, 0, 0, 1, 2, 3, 4, 5, 6, 7, 8, 9);
        places("in reverse", field, 1, 9, 8, 7, 6, 5, 4, 3, 2, 1, 0);
        field.part(0, 4, 60, true);
        places("and back", field, 2, 0, 1, 2, 3, 4, 5, 6, 7, 8, 9);
    }

    private static void kept() {
        CHECK.sentence("Promise 12: KEPT: the dot d goes to the place d.");
        DrillField field = Scenes.withDots(10);
        field.line(100, 0, 1000, 0);
        field.line(1000, 0, 100, 0);
        field.part(0, 4, 60, false);
        field.part(1, 4, 60, false);
        places("KEPT", field, 1, 0, 1, 2, 3, 4, 5, 6, 7, 8, 9);
        Scenes.stands(CHECK, "KEPT", field, 1, 4, 0, 1000, 0);
        Scenes.stands(CHECK, "KEPT", field, 1, 4, 9, 100, 0);
    }

    private static void eachToOnePlace() {
        CHECK.sentence("Promise 12: LEAST: each dot goes to one place, no two to the same");
        for (int dots = 2; dots <= 10; dots++) {
            DrillField field = Scenes.withDots(dots);
            field.wedge(800, 100, 20);
            field.block(780, 100, 3, 20);
            least(field);
            int taken = 0;
            for (int dot = 0; dot < dots; dot++) {
                taken |= 1 << field.place(1, dot);
            }
            CHECK.due("all places of " + dots, taken, (1 << dots) - 1);
        }
    }

    /** The two ways together are as long for both orders, where the first place has the x 50 in the middle. */
    private static void squaresTogetherAreLeast() {
        CHECK.sentence("Promise 12: so that all squares of ways from where they were, together, are the least");
        int[][] due = {{49, 0, 1, 7401}, {50, 0, 1, 7500}, {51, 1, 0, 7401}};
        for (int[] row : due) {
            DrillField field = Scenes.withDots(2);
            field.line(0, 0, 100, 0);
            field.line(row[0], 50, 50, 0);
            places("x " + row[0], least(field), 1, row[1], row[2]);
            CHECK.due("all squares, x " + row[0], field.walking(1), row[3]);
        }
        DrillField squares = Scenes.withDots(2);
        squares.line(0, 0, 100, 0);
        squares.line(100, 0, 200, 0);
        places("one long way is more than two short ones", least(squares), 1, 0, 1);
    }

    private static void dotZeroHasTheLowest() {
        CHECK.sentence("Promise 12: of several that in which the dot 0 has the lowest place");
        DrillField two = Scenes.withDots(2);
        two.line(0, 0, 100, 0);
        two.line(50, 50, 50, 0);
        places("of two", least(two), 1, 0, 1);
        DrillField three = Scenes.withDots(3);
        three.line(200, 200, 0, 0);
        three.block(0, 0, 2, 100);
        places("of the places 1 and 2", least(three), 1, 1, 2, 0);
        CHECK.due("all squares", three.walking(1), 60000);
    }

    private static void thenTheDotOne() {
        CHECK.sentence("Promise 12: then the dot 1, and so on.");
        DrillField three = Scenes.withDots(3);
        three.line(0, 200, 0, 0);
        three.block(0, 0, 2, 100);
        places("the dot 0 has the place 2 in any case", least(three), 1, 2, 0, 1);
        CHECK.due("all squares", three.walking(1), 30000);
        DrillField four = Scenes.withDots(4);
        four.line(100, 300, 100, 0);
        four.line(0, 0, 300, 0);
        places("all orders are as long", least(four), 1, 0, 1, 2, 3);
    }

    private static void allAtOneSpot() {
        CHECK.sentence("Promise 12: of several that in which the dot 0 has the lowest place, then the dot 1, and "
                + "so on.");
        DrillField field = Scenes.withDots(10);
        field.line(800, 400, 800, 400);
        field.line(0, 0, 900, 0);
        places("from one spot", least(field), 1, 0, 1, 2, 3, 4, 5, 6, 7, 8, 9);
        field.part(0, 4, 60, true);
        places("to one spot", field, 2, 0, 1, 2, 3, 4, 5, 6, 7, 8, 9);
        field.part(0, 4, 60, true);
        places("at one spot", field, 3, 0, 1, 2, 3, 4, 5, 6, 7, 8, 9);
    }

    private static void firstPartIsKept() {
        CHECK.sentence("Promise 12: In the first part, with LEAST, it is KEPT.");
        DrillField field = Scenes.withDots(3);
        field.line(200, 0, 0, 0);
        field.part(0, 4, 60, true);
        places("the first part", field, 0, 0, 1, 2);
        field.part(0, 4, 60, true);
        places("the same set again", field, 1, 0, 1, 2);
    }

    private static void whoIsIllHasAPlace() {
        CHECK.sentence("Promise 12: a set has a place for each dot");
        DrillField field = Scenes.withDots(2);
        field.line(0, 0, 100, 0);
        field.line(100, 0, 0, 0);
        field.ill(0, true);
        places("who is ill", least(field), 1, 1, 0);
        field.ill(1, true);
        field.change(1, 1, 4, 60, false);
        places("all are ill", field, 1, 0, 1);
    }

    private static void throwsIndexOfThePart() {
        CHECK.sentence("Promise 12: Throws IndexOutOfBoundsException as told, of the part or dot");
        int[] wrong = {Integer.MIN_VALUE, -1, 4, 5, 11, 12, Integer.MAX_VALUE};
        for (int part : wrong) {
            CHECK.refusesIndex("place(" + part + ", 0) of four parts", Scenes::rich, field -> field.place(part, 0));
        }
        CHECK.refusesIndex("place(0, 0) of no part", Scenes::nothing, field -> field.place(0, 0));
        DrillField field = Check.told(Scenes::allParts);
        CHECK.due("the part 0", field.place(0, 1), 1);
        CHECK.holds("the part 11", field.place(11, 1) >= 0);
        CHECK.index("the part 12", () -> field.place(12, 1));
        field.cut();
        CHECK.index("a part that was cut", () -> field.place(11, 1));
    }

    private static void throwsIndexOfTheDot() {
        CHECK.sentence("Promise 12: Throws IndexOutOfBoundsException as told, of the part or dot");
        int[] wrong = {Integer.MIN_VALUE, -1, 5, 6, 10, Integer.MAX_VALUE};
        for (int dot : wrong) {
            CHECK.refusesIndex("place(0, " + dot + ") of five dots", Scenes::rich, field -> field.place(0, dot));
        }
        CHECK.refusesIndex("both", Scenes::rich, field -> field.place(4, 5));
        DrillField ten = Scenes.lines(10, Scenes.row(0, 0, 900, 0));
        CHECK.due("the dot 9", ten.place(0, 9), 9);
        CHECK.index("the dot 10", () -> ten.place(0, 10));
    }

    private static void nothingHasChanged() {
        CHECK.sentence("Promise 12: When a call throws, nothing has changed");
        CHECK.refusesIndex("a part beside", Scenes::allParts, field -> field.place(12, 0));
        CHECK.refusesIndex("a dot beside", Scenes::allParts, field -> field.place(11, 2));
    }
}
