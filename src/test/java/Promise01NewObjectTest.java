/** Promise 1, DrillField(): each sentence that names a boundary, at it and one step beyond it. */
public final class Promise01NewObjectTest {
    private static final Check CHECK = new Check("Promise01NewObjectTest");

    public static void main(String[] args) {
        beginsWithFourDots();
        withoutSets();
        numberedFromZero();
        marksNoParts();
        firstLegs();
        wellAtFirst();
        alternatesKnowNone();
        clockAtFirst();
        captionsAtFirst();
        penaltiesAtFirst();
        noneIsMinusOne();
        kindsOfFaults();
        noMoreThan512Calls();
        objectsOfTheirOwn();
        noSuchNumber();
        anotherArgument();
        CHECK.end();
    }

    private static void beginsWithFourDots() {
        CHECK.sentence("Promise 1: Begins with four dots");
        DrillField field = new DrillField();
        field.line(0, 0, 300, 600);
        field.part(0, 1, 60, false);
        CHECK.due("the place of the dot 3", field.place(0, 3), 3);
        CHECK.due("the last but one of four places", field.at(0, 0, 2), 2000 * 200 + 400);
        CHECK.due("the last of four places", field.at(0, 0, 3), 2000 * 300 + 600);
        CHECK.index("the place of a dot 4", () -> field.place(0, 4));
        CHECK.due("as many pages as dots", field.changed(), 4);
    }

    private static void withoutSets() {
        CHECK.sentence("Promise 1: without sets.");
        CHECK.refusesIndex("part of a set 0", Scenes::nothing, field -> field.part(0, 1, 60, false));
        CHECK.refusesIndex("part of a set -1", Scenes::nothing, field -> field.part(-1, 1, 60, false));
        DrillField field = new DrillField();
        CHECK.due("the first set", field.line(0, 0, 0, 0), 0);
        CHECK.due("a part of the first set", field.part(0, 1, 60, false), 0);
        CHECK.index("part of a set 1", () -> field.part(1, 1, 60, false));
    }

    private static void numberedFromZero() {
        CHECK.sentence("Promise 1: A band has 2 to 10 dots, numbered from 0, 4 at first");
        DrillField field = new DrillField();
        CHECK.index("the dot -1", () -> field.ill(-1, false));
        CHECK.holds("the dot 0", field.ill(0, false));
        CHECK.holds("the dot 3", field.ill(3, false));
        CHECK.index("the dot 4", () -> field.ill(4, false));
    }

    private static void marksNoParts() {
        CHECK.sentence("Promise 1: The show is a row of parts, at most 12");
        CHECK.refusesState("cut without a part", Scenes::nothing, DrillField::cut);
        CHECK.refusesIndex("walking of a part 0", Scenes::nothing, field -> field.walking(0));
        DrillField field = new DrillField();
        CHECK.due("lasts", field.lasts(), 0);
        CHECK.due("changed", field.changed(), 0);
        CHECK.due("publish", field.publish(), 0);
        CHECK.holds("agrees", field.agrees());
    }

    private static void firstLegs() {
        CHECK.sentence("Promise 1: A dot has legs: how long a step can be, 5 to 40 tenths, 14 at first.");
        DrillField field = new DrillField();
        for (int set = 0; set < 2; set++) {
            field.line(0, 0, 300, 0);
        }
        field.line(14, 0, 314, 0);
        field.line(29, 0, 329, 0);
        for (int part = 0; part < 3; part++) {
            field.part(part + 1, 1, 120, false);
        }
        Scenes.noFault(CHECK, "steps of 14", field, 1);
        Scenes.fault(CHECK, "steps of 15", field, 2, 1, DrillField.STEP, 0, DrillField.NONE);
        for (int dot = 0; dot < 4; dot++) {
            CHECK.due("what the legs of the dot " + dot + " were", field.legs(dot, 40), 14);
        }
    }

    private static void wellAtFirst() {
        CHECK.sentence("Promise 1: A dot is ill, or not.");
        DrillField field = new DrillField();
        field.line(0, 0, 300, 0);
        field.part(0, 1, 60, false);
        for (int dot = 0; dot < 4; dot++) {
            CHECK.holds("the dot " + dot + " marches at first", field.caught(0, 0, dot, 1, 0));
        }
    }

    private static void alternatesKnowNone() {
        CHECK.sentence("Promise 1: each knows the place of one dot, or of none, as at first, and is ill, or not.");
        DrillField field = new DrillField();
        for (int dot = 0; dot < 4; dot++) {
            CHECK.holds("nobody marches for the dot " + dot, !field.ill(dot, true));
        }
    }

    private static void clockAtFirst() {
        CHECK.sentence("Promise 1: It has to be at least, and at most, as long as is told, 0 to 9999, 0 and 9999 "
                + "at first");
        DrillField field = new DrillField();
        CHECK.due("nothing is lost by a show of 0", field.judge(0, 0, 600), 200);
        field.line(0, 0, 300, 0);
        for (int part = 0; part < 12; part++) {
            field.part(0, 64, 60, false);
        }
        CHECK.due("nothing is lost by the longest show", field.judge(0, 0, 600), 200);
    }

    private static void captionsAtFirst() {
        CHECK.sentence("Promise 1: There are the bands 0 to 5, each with four captions, 0 to 1000 tenths, 0 at first");
        DrillField field = new DrillField();
        for (int band = 0; band < 6; band++) {
            CHECK.due("the band at the rank " + band, field.ranked(band), band);
        }
        for (int band = 0; band < 6; band++) {
            CHECK.due("points of the band " + band + " by its caption 3", field.judge(band, 3, 6), 1);
            CHECK.due("points of the band " + band + " without", field.judge(band, 3, 0), 0);
        }
    }

    private static void penaltiesAtFirst() {
        CHECK.sentence("Promise 1: and penalties, 0 to 1000.");
        DrillField field = new DrillField();
        for (int band = 0; band < 6; band++) {
            CHECK.due("points of the band " + band + ", no penalties", field.judge(band, 0, 3), 1);
        }
    }

    private static void noneIsMinusOne() {
        CHECK.sentence("Promise 1: The constants: NONE = -1: There is none.");
        CHECK.due("NONE", DrillField.NONE, -1);
    }

    private static void kindsOfFaults() {
        CHECK.sentence("Promise 1: STEP = 0, NEAR = 1, CROSS = 2: Kinds of faults.");
        CHECK.due("STEP", DrillField.STEP, 0);
        CHECK.due("NEAR", DrillField.NEAR, 1);
        CHECK.due("CROSS", DrillField.CROSS, 2);
    }

    private static void noMoreThan512Calls() {
        CHECK.sentence("Promise 1: An object is used for at most 512 calls after it has been made; what later "
                + "calls answer is free.");
        DrillField field = new DrillField();
        field.line(0, 0, 300, 0);
        field.line(0, 840, 1600, 840);
        field.part(0, 64, 60, false);
        field.part(1, 64, 60, true);
        for (int call = 5; call <= 511; call++) {
            CHECK.due("the call " + call, field.legs(call % 4, 5 + call % 36), call < 9 ? 14 : 5 + (call - 4) % 36);
        }
        CHECK.due("the call 512", field.at(1, 64, 3), 2000 * 1600 + 840);
    }

    private static void objectsOfTheirOwn() {
        CHECK.sentence("Promise 1: Begins with four dots, without sets.");
        Check.told(Scenes::rich);
        Check.told(Scenes::allParts);
        DrillField field = new DrillField();
        CHECK.due("legs as if there was no other object", field.legs(0, 14), 14);
        CHECK.due("the first set", field.line(0, 0, 0, 0), 0);
        CHECK.due("no page was published", field.changed(), 0);
    }

    private static void noSuchNumber() {
        CHECK.sentence("Promise 1: IndexOutOfBoundsException: there is no such dot, alternate, set, part, band or "
                + "caption.");
        CHECK.refusesIndex("the dot 4", Scenes::nothing, field -> field.ill(4, true));
        CHECK.refusesIndex("the alternate 3", Scenes::nothing, field -> field.alternate(3, 0, true));
        CHECK.refusesIndex("the set 0", Scenes::nothing, field -> field.part(0, 1, 60, true));
        CHECK.refusesIndex("the part 0", Scenes::nothing, field -> field.walking(0));
        CHECK.refusesIndex("the band 6", Scenes::nothing, field -> field.penalty(6, 1));
        CHECK.refusesIndex("the caption 4", Scenes::nothing, field -> field.judge(0, 4, 1));
        DrillField field = new DrillField();
        CHECK.holds("the dot 3", field.ill(3, false));
        field.alternate(2, 3, false);
        CHECK.holds("the alternate 2", field.ill(3, true));
        CHECK.due("the set 0", field.line(0, 0, 0, 0), 0);
        CHECK.due("the part 0", field.part(0, 1, 60, false), 0);
        CHECK.due("the band 5 and the caption 3", field.judge(5, 3, 6), 1);
    }

    private static void anotherArgument() {
        CHECK.sentence("Promise 1: IllegalArgumentException: another argument is out of its range.");
        CHECK.refusesArgument("dots", Scenes::nothing, field -> field.band(11));
        CHECK.refusesArgument("legs", Scenes::nothing, field -> field.legs(3, 41));
        CHECK.refusesArgument("a line", Scenes::nothing, field -> field.line(0, 0, 0, 841));
        CHECK.refusesArgument("a block", Scenes::nothing, field -> field.block(0, 0, 11, 1));
        CHECK.refusesArgument("a wedge", Scenes::nothing, field -> field.wedge(800, 0, 401));
        CHECK.refusesArgument("a clock", Scenes::nothing, field -> field.clock(1, 0));
        CHECK.refusesArgument("a caption's tenths", Scenes::nothing, field -> field.judge(5, 3, 1001));
        CHECK.refusesArgument("penalties", Scenes::nothing, field -> field.penalty(5, 1001));
        CHECK.refusesArgument("a rank", Scenes::nothing, field -> field.ranked(6));
        CHECK.refusesArgument("minutes", Scenes::nothing, field -> field.rehearse(0, 0));
    }
}
