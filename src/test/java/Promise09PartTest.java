/** Promise 9, part: each sentence that names a boundary, at it and one step beyond it. */
public final class Promise09PartTest {
    private static final Check CHECK = new Check("Promise09PartTest");

    public static void main(String[] args) {
        addsAPart();
        counts();
        tempo();
        leastOrKept();
        returnsItsNumber();
        reachedFromThePartAhead();
        firstPart();
        firstPartIsKept();
        throwsIndex();
        throwsArgument();
        throwsState();
        atMostTwelve();
        firstOfSeveralExceptions();
        CHECK.end();
    }

    /** Two dots; the sets 0 and 1 are of the same places, the set 1 in reverse. */
    private static void twoSets(DrillField field) {
        field.band(2);
        field.line(100, 100, 200, 100);
        field.line(200, 100, 100, 100);
    }

    private static void addsAPart() {
        CHECK.sentence("Promise 9: Adds a part.");
        DrillField field = Check.told(Promise09PartTest::twoSets);
        CHECK.index("no part yet", () -> field.walking(0));
        field.part(0, 4, 60, false);
        CHECK.due("the part 0", field.walking(0), 0);
        CHECK.index("no part 1 yet", () -> field.walking(1));
        field.part(1, 4, 60, false);
        CHECK.due("the part 1", field.walking(1), 20000);
        CHECK.due("the part 0 stays", field.walking(0), 0);
        CHECK.index("no part 2 yet", () -> field.walking(2));
    }

    private static void counts() {
        CHECK.sentence("Promise 9: counts: 1 to 64");
        DrillField field = Check.told(Promise09PartTest::twoSets);
        int[] counts = {1, 2, 63, 64};
        for (int part = 0; part < counts.length; part++) {
            int asked = part;
            CHECK.due("a part of " + counts[part], field.part(part % 2, counts[part], 60, false), part);
            Scenes.stands(CHECK, "at its end", field, part, counts[part], 0, part % 2 == 0 ? 100 : 200, 100);
            CHECK.argument("behind its end", () -> field.at(asked, counts[asked] + 1, 0));
            CHECK.due("it lasts", field.lasts(), 10 * (part == 0 ? 1 : part == 1 ? 3 : part == 2 ? 66 : 130));
        }
        CHECK.refusesArgument("no counts", Scenes::rich, other -> other.part(0, 0, 120, false));
        CHECK.refusesArgument("65 counts", Scenes::rich, other -> other.part(0, 65, 120, false));
    }

    private static void tempo() {
        CHECK.sentence("Promise 9: tempo: 60 to 240");
        int[] tempos = {60, 61, 239, 240};
        int[] lasts = {640, 629, 160, 160};
        for (int i = 0; i < tempos.length; i++) {
            DrillField field = Check.told(Promise09PartTest::twoSets);
            CHECK.due("a part of the tempo " + tempos[i], field.part(0, 64, tempos[i], true), 0);
            CHECK.due("how long it lasts", field.lasts(), lasts[i]);
        }
        CHECK.refusesArgument("the tempo 59", Scenes::rich, field -> field.part(0, 8, 59, false));
        CHECK.refusesArgument("the tempo 241", Scenes::rich, field -> field.part(0, 8, 241, false));
    }

    private static void leastOrKept() {
        CHECK.sentence("Promise 9: isLeast: whether it is LEAST, otherwise KEPT");
        DrillField field = Check.told(Promise09PartTest::twoSets);
        field.part(0, 4, 60, false);
        field.part(1, 4, 60, true);
        CHECK.due("LEAST: the place of the dot 0", field.place(1, 0), 1);
        CHECK.due("LEAST: the place of the dot 1", field.place(1, 1), 0);
        CHECK.due("LEAST: nobody walks", field.walking(1), 0);
        field.part(1, 4, 60, false);
        CHECK.due("KEPT: the place of the dot 0", field.place(2, 0), 0);
        CHECK.due("KEPT: the place of the dot 1", field.place(2, 1), 1);
        CHECK.due("KEPT: both walk", field.walking(2), 20000);
    }

    private static void returnsItsNumber() {
        CHECK.sentence("Promise 9: Returns its number.");
        DrillField field = Check.told(Promise09PartTest::twoSets);
        CHECK.due("the first one", field.part(1, 1, 60, false), 0);
        CHECK.argument("a wrong one", () -> field.part(1, 0, 60, false));
        CHECK.due("the next one", field.part(1, 1, 60, false), 1);
        field.cut();
        CHECK.due("the next one, after a cut", field.part(0, 1, 60, false), 1);
        field.cut();
        field.cut();
        CHECK.due("the first one again", field.part(0, 1, 60, false), 0);
    }

    private static void reachedFromThePartAhead() {
        CHECK.sentence("Promise 9: a part is a set, counts, 1 to 64, in which it is reached from the set of the part "
                + "ahead, a tempo, 60 to 240 counts a minute, and who goes where");
        DrillField field = Check.told(Promise09PartTest::twoSets);
        field.part(0, 1, 240, false);
        field.part(1, 1, 240, false);
        Scenes.stands(CHECK, "where the part ahead ended", field, 1, 0, 0, 100, 100);
        Scenes.stands(CHECK, "one count later", field, 1, 1, 0, 200, 100);
        field.part(1, 64, 60, false);
        Scenes.stands(CHECK, "where the part ahead ended", field, 2, 0, 0, 200, 100);
        Scenes.stands(CHECK, "the same set again", field, 2, 32, 0, 200, 100);
        field.part(0, 64, 60, false);
        Scenes.stands(CHECK, "half of the way", field, 3, 32, 0, 150, 100);
        Scenes.stands(CHECK, "the last count", field, 3, 64, 0, 100, 100);
    }

    private static void firstPart() {
        CHECK.sentence("Promise 9: the first part has its set from the beginning on, and its counts are marked on "
                + "the spot.");
        DrillField field = Check.told(Promise09PartTest::twoSets);
        field.part(1, 64, 60, false);
        for (int count = 0; count <= 64; count += 16) {
            Scenes.stands(CHECK, "on the spot", field, 0, count, 0, 200, 100);
            Scenes.stands(CHECK, "on the spot", field, 0, count, 1, 100, 100);
        }
        CHECK.due("nobody walks", field.walking(0), 0);
    }

    private static void firstPartIsKept() {
        CHECK.sentence("Promise 9: In the first part, with LEAST, it is KEPT.");
        DrillField field = Check.told(Promise09PartTest::twoSets);
        field.part(1, 4, 60, true);
        CHECK.due("the place of the dot 0", field.place(0, 0), 0);
        CHECK.due("the place of the dot 1", field.place(0, 1), 1);
        field.part(0, 4, 60, true);
        CHECK.due("the second part: the place of the dot 0", field.place(1, 0), 1);
    }

    private static void throwsIndex() {
        CHECK.sentence("Promise 9: Throws IndexOutOfBoundsException as told, of the set");
        int[] wrong = {Integer.MIN_VALUE, -2, -1, 4, 5, 11, 12, Integer.MAX_VALUE};
        for (int set : wrong) {
            CHECK.refusesIndex("part(" + set + ") of four sets", Scenes::rich, field -> field.part(set, 8, 120, true));
        }
        DrillField field = Check.told(Scenes::rich);
        CHECK.due("part(0)", field.part(0, 8, 120, true), 4);
        CHECK.due("part(3)", field.part(3, 8, 120, true), 5);
        DrillField all = Check.told(Scenes::allSets);
        CHECK.due("part(11)", all.part(11, 8, 120, true), 0);
        CHECK.index("part(12)", () -> all.part(12, 8, 120, true));
    }

    private static void throwsArgument() {
        CHECK.sentence("Promise 9: Throws IllegalArgumentException as told");
        int[] wrongCounts = {Integer.MIN_VALUE, -1, 0, 65, 1 << 16, Integer.MAX_VALUE};
        for (int counts : wrongCounts) {
            CHECK.refusesArgument("counts " + counts, Scenes::rich, field -> field.part(0, counts, 120, true));
        }
        int[] wrongTempos = {Integer.MIN_VALUE, -120, 0, 59, 241, Integer.MAX_VALUE};
        for (int tempo : wrongTempos) {
            CHECK.refusesArgument("tempo " + tempo, Scenes::rich, field -> field.part(0, 8, tempo, false));
        }
        CHECK.refusesArgument("both", field -> field.line(0, 0, 0, 0), field -> field.part(0, 0, 0, false));
    }

    private static void throwsState() {
        CHECK.sentence("Promise 9: Throws IllegalStateException if there are 12");
        CHECK.refusesState("the 13th part", Scenes::allParts, field -> field.part(0, 8, 120, false));
        CHECK.refusesState("the 13th part with LEAST", Scenes::allParts, field -> field.part(1, 64, 240, true));
        DrillField field = Check.told(Scenes::allParts);
        CHECK.state("a part", () -> field.part(0, 8, 120, false));
        CHECK.state("a part once more", () -> field.part(0, 8, 120, false));
        CHECK.due("cut", field.cut(), 11);
        CHECK.due("the last part again", field.part(0, 8, 120, false), 11);
        CHECK.state("a part once more", () -> field.part(0, 8, 120, false));
    }

    private static void atMostTwelve() {
        CHECK.sentence("Promise 9: The show is a row of parts, at most 12");
        DrillField field = Check.told(Promise09PartTest::twoSets);
        for (int part = 0; part < 12; part++) {
            int beyond = part + 1;
            CHECK.due("the part " + part, field.part(part % 2, 1, 60, false), part);
            CHECK.due("walking", field.walking(part), part == 0 ? 0 : 20000);
            CHECK.index("no part more", () -> field.walking(beyond));
        }
        CHECK.state("the part 12", () -> field.part(0, 1, 60, false));
        CHECK.index("no part 12", () -> field.walking(12));
    }

    private static void firstOfSeveralExceptions() {
        CHECK.sentence("Promise 9: When a call throws, nothing has changed; of several exceptions it is the first one "
                + "of the throws clause.");
        CHECK.refusesIndex("a wrong set and counts", Scenes::rich, field -> field.part(4, 0, 120, false));
        CHECK.refusesIndex("a wrong set and tempo", Scenes::rich, field -> field.part(-1, 8, 241, false));
        CHECK.refusesIndex("a wrong set, and 12 parts", Scenes::allParts, field -> field.part(2, 8, 120, false));
        CHECK.refusesArgument("wrong counts, and 12 parts", Scenes::allParts, field -> field.part(0, 65, 120, false));
        CHECK.refusesArgument("a wrong tempo, and 12 parts", Scenes::allParts, field -> field.part(0, 8, 59, false));
        CHECK.refusesIndex("all wrong", Scenes::allParts, field -> field.part(-1, 0, 0, false));
    }
}
