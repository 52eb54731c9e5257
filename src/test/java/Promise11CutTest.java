/** Promise 11, cut: each sentence that names a boundary, at it and one step beyond it. */
public final class Promise11CutTest {
    private static final Check CHECK = new Check("Promise11CutTest");

    public static void main(String[] args) {
        takesTheLastPartAway();
        returnsHowManyThereAre();
        throwsStateWithoutAPart();
        partsComeAgain();
        nothingHasChanged();
        CHECK.end();
    }

    private static void takesTheLastPartAway() {
        CHECK.sentence("Promise 11: Takes the last part away.");
        DrillField field = Scenes.lines(2, Scenes.row(100, 100, 200, 100), Scenes.row(200, 100, 100, 100),
                Scenes.row(0, 0, 0, 0));
        field.cut();
        CHECK.index("the last part", () -> field.walking(2));
        CHECK.due("the part ahead of it", field.walking(1), 20000);
        field.cut();
        CHECK.index("the next one", () -> field.walking(1));
        CHECK.due("the first part", field.walking(0), 0);
        CHECK.due("lasts", field.lasts(), 5);
        field.cut();
        CHECK.index("the first part", () -> field.walking(0));
        CHECK.due("lasts", field.lasts(), 0);
        CHECK.due("the sets stay", field.part(2, 1, 60, false), 0);
    }

    private static void returnsHowManyThereAre() {
        CHECK.sentence("Promise 11: Returns how many there are then.");
        DrillField field = Check.told(Scenes::allParts);
        for (int parts = 11; parts >= 0; parts--) {
            CHECK.due("cut", field.cut(), parts);
        }
    }

    private static void throwsStateWithoutAPart() {
        CHECK.sentence("Promise 11: Throws IllegalStateException if there is none");
        CHECK.refusesState("cut of a new object", Scenes::nothing, DrillField::cut);
        CHECK.refusesState("cut with sets alone", Scenes::allSets, DrillField::cut);
        CHECK.refusesState("cut of a show that was cut", Promise11CutTest::richWithoutParts, DrillField::cut);
        DrillField field = Scenes.lines(2, Scenes.row(0, 0, 0, 0));
        CHECK.due("cut of one part", field.cut(), 0);
        CHECK.state("cut of none", field::cut);
        CHECK.state("cut of none again", field::cut);
        CHECK.due("the first part", field.part(0, 1, 60, false), 0);
        CHECK.due("cut of it", field.cut(), 0);
    }

    private static void richWithoutParts(DrillField field) {
        Scenes.rich(field);
        for (int part = 3; part >= 0; part--) {
            field.cut();
        }
    }

    private static void partsComeAgain() {
        CHECK.sentence("Promise 11: The show is a row of parts, at most 12");
        DrillField field = Check.told(Scenes::allParts);
        field.cut();
        CHECK.due("the 12th part again", field.part(1, 4, 60, false), 11);
        CHECK.state("and no more", () -> field.part(1, 4, 60, false));
        field.cut();
        field.cut();
        CHECK.due("the part 10", field.part(1, 7, 60, false), 10);
        Scenes.stands(CHECK, "its own counts and set", field, 10, 7, 0, 200, 110);
        CHECK.argument("no count more", () -> field.at(10, 8, 0));
    }

    private static void nothingHasChanged() {
        CHECK.sentence("Promise 11: When a call throws, nothing has changed");
        CHECK.refusesState("cut, where all but parts is told", Promise11CutTest::richWithoutParts, DrillField::cut);
        CHECK.refusesState("cut, with a band alone", Scenes::richBand, DrillField::cut);
    }
}
