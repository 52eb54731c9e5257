/** Promise 10, change: each sentence that names a boundary, at it and one step beyond it. */
public final class Promise10ChangeTest {
    private static final Check CHECK = new Check("Promise10ChangeTest");

    public static void main(String[] args) {
        changesAPart();
        laterOnesAreFoundAnew();
        earlierOnesStay();
        counts();
        tempo();
        leastOrKept();
        firstPartIsKept();
        fullShow();
        throwsIndexOfThePart();
        throwsIndexOfTheSet();
        throwsArgument();
        firstOfSeveralExceptions();
        CHECK.end();
    }

    /** Two dots; the sets 0 and 1 are of the same places, the set 1 in reverse; parts of both, all of them LEAST. */
    private static DrillField parts(int parts) {
        DrillField field = Scenes.withDots(2);
        field.line(100, 100, 200, 100);
        field.line(200, 100, 100, 100);
        for (int part = 0; part < parts; part++) {
            field.part(part % 2, 4, 60, true);
        }
        return field;
    }

    private static void changesAPart() {
        CHECK.sentence("Promise 10: Changes a part");
        DrillField field = parts(1);
        field.change(0, 1, 5, 100, false);
        Scenes.stands(CHECK, "another set", field, 0, 5, 0, 200, 100);
        CHECK.argument("other counts", () -> field.at(0, 6, 0));
        CHECK.due("another tempo", field.lasts(), 30);
        CHECK.index("no part more", () -> field.walking(1));
        field.change(0, 1, 5, 100, false);
        CHECK.due("told the same again", field.lasts(), 30);
    }

    private static void laterOnesAreFoundAnew() {
        CHECK.sentence("Promise 10: later ones are found anew.");
        DrillField field = parts(12);
        for (int part = 1; part < 12; part++) {
            CHECK.due("the place of the dot 0 in the part " + part, field.place(part, 0), part % 2);
        }
        field.change(0, 1, 4, 60, true);
        for (int part = 1; part < 12; part++) {
            CHECK.due("the place of the dot 0 in the part " + part + " then", field.place(part, 0), 1 - part % 2);
            Scenes.stands(CHECK, "all stay", field, part, 0, 0, 200, 100);
            Scenes.stands(CHECK, "all stay", field, part, 4, 0, 200, 100);
        }
        field.change(5, 1, 4, 60, false);
        CHECK.due("KEPT: the place of the dot 0", field.place(5, 0), 0);
        field.change(5, 0, 4, 60, false);
        CHECK.due("KEPT: the dots walk", field.walking(5), 20000);
        CHECK.due("the part ahead", field.place(4, 0), 1);
        CHECK.due("the next part", field.place(6, 0), 0);
        CHECK.due("the last part", field.place(11, 0), 1);
        Scenes.stands(CHECK, "the last part", field, 11, 4, 0, 100, 100);
    }

    private static void earlierOnesStay() {
        CHECK.sentence("Promise 10: Changes a part; later ones are found anew.");
        DrillField field = parts(3);
        field.change(2, 1, 9, 90, false);
        CHECK.due("the last part, KEPT: nobody walks less", field.walking(2), 20000);
        CHECK.due("the part 1 stays", field.place(1, 0), 1);
        CHECK.due("the part 0 stays", field.place(0, 0), 0);
        Scenes.stands(CHECK, "the part 1 has its counts", field, 1, 4, 0, 100, 100);
        CHECK.argument("the part 1 has its counts", () -> field.at(1, 5, 0));
        CHECK.due("lasts", field.lasts(), 40 + 40 + 60);
    }

    private static void counts() {
        CHECK.sentence("Promise 10: counts: 1 to 64");
        DrillField field = parts(2);
        int[] counts = {1, 2, 63, 64};
        for (int told : counts) {
            field.change(1, 1, told, 60, false);
            Scenes.stands(CHECK, "at the end of " + told, field, 1, told, 0, 200, 100);
            CHECK.argument("behind the end of " + told, () -> field.at(1, told + 1, 0));
        }
        CHECK.refusesArgument("no counts", Scenes::rich, other -> other.change(1, 0, 0, 120, false));
        CHECK.refusesArgument("65 counts", Scenes::rich, other -> other.change(1, 0, 65, 120, false));
    }

    private static void tempo() {
        CHECK.sentence("Promise 10: tempo: 60 to 240");
        DrillField field = parts(1);
        int[] tempos = {60, 61, 239, 240};
        int[] lasts = {640, 629, 160, 160};
        for (int i = 0; i < tempos.length; i++) {
            field.change(0, 0, 64, tempos[i], false);
            CHECK.due("how long a part of the tempo " + tempos[i] + " lasts", field.lasts(), lasts[i]);
        }
        CHECK.refusesArgument("the tempo 59", Scenes::rich, other -> other.change(1, 0, 8, 59, false));
        CHECK.refusesArgument("the tempo 241", Scenes::rich, other -> other.change(1, 0, 8, 241, false));
    }

    private static void leastOrKept() {
        CHECK.sentence("Promise 10: isLeast: whether it is LEAST, otherwise KEPT");
        DrillField field = parts(2);
        field.change(1, 1, 4, 60, false);
        CHECK.due("KEPT", field.place(1, 0), 0);
        CHECK.due("KEPT", field.walking(1), 20000);
        field.change(1, 1, 4, 60, true);
        CHECK.due("LEAST", field.place(1, 0), 1);
        CHECK.due("LEAST", field.walking(1), 0);
    }

    private static void firstPartIsKept() {
        CHECK.sentence("Promise 10: In the first part, with LEAST, it is KEPT.");
        DrillField field = parts(2);
        field.change(0, 1, 4, 60, true);
        CHECK.due("the place of the dot 0", field.place(0, 0), 0);
        Scenes.stands(CHECK, "from the beginning on", field, 0, 0, 0, 200, 100);
        CHECK.due("nobody walks", field.walking(0), 0);
        CHECK.due("the next part", field.place(1, 0), 0);
    }

    private static void fullShow() {
        CHECK.sentence("Promise 10: The show is a row of parts, at most 12");
        DrillField field = parts(12);
        field.change(11, 1, 64, 240, false);
        CHECK.due("the last of 12", field.walking(11), 20000);
        field.change(11, 0, 64, 240, false);
        CHECK.due("the last of 12, another set", field.walking(11), 0);
        CHECK.due("lasts", field.lasts(), 11 * 40 + 160);
        CHECK.refusesIndex("the part 12", Scenes::allParts, other -> other.change(12, 0, 4, 60, false));
    }

    private static void throwsIndexOfThePart() {
        CHECK.sentence("Promise 10: Throws IndexOutOfBoundsException as told, of the part or set");
        int[] wrong = {Integer.MIN_VALUE, -2, -1, 4, 5, 11, 12, Integer.MAX_VALUE};
        for (int number : wrong) {
            CHECK.refusesIndex("the part " + number + " of four", Scenes::rich, field -> field.change(number, 0, 8,
                    120, true));
        }
        CHECK.refusesIndex("a part of none", field -> field.line(0, 0, 0, 0), field -> field.change(0, 0, 8, 120,
                true));
        CHECK.refusesIndex("a part and a set of none", Scenes::nothing, field -> field.change(0, 0, 8, 120, true));
        DrillField field = Check.told(Scenes::rich);
        field.change(3, 3, 64, 60, false);
        field.change(0, 0, 64, 60, false);
        CHECK.due("the first and the last part", field.lasts(), 640 + 30 + 32 + 640);
        field.cut();
        CHECK.index("a part that was cut", () -> field.change(3, 3, 64, 60, false));
    }

    private static void throwsIndexOfTheSet() {
        CHECK.sentence("Promise 10: Throws IndexOutOfBoundsException as told, of the part or set");
        int[] wrong = {Integer.MIN_VALUE, -2, -1, 4, 5, 11, 12, Integer.MAX_VALUE};
        for (int number : wrong) {
            CHECK.refusesIndex("the set " + number + " of four", Scenes::rich, field -> field.change(2, number, 8, 120,
                    true));
        }
        CHECK.refusesIndex("both", Scenes::rich, field -> field.change(4, 4, 8, 120, true));
    }

    private static void throwsArgument() {
        CHECK.sentence("Promise 10: Throws IllegalArgumentException as told");
        int[] wrongCounts = {Integer.MIN_VALUE, -1, 0, 65, 1 << 16, Integer.MAX_VALUE};
        for (int counts : wrongCounts) {
            CHECK.refusesArgument("counts " + counts, Scenes::rich, field -> field.change(0, 1, counts, 120, true));
        }
        int[] wrongTempos = {Integer.MIN_VALUE, -120, 0, 59, 241, Integer.MAX_VALUE};
        for (int tempo : wrongTempos) {
            CHECK.refusesArgument("tempo " + tempo, Scenes::rich, field -> field.change(0, 1, 8, tempo, false));
        }
        CHECK.refusesArgument("both", Scenes::rich, field -> field.change(3, 0, 0, 0, false));
    }

    private static void firstOfSeveralExceptions() {
        CHECK.sentence("Promise 10: When a call throws, nothing has changed; of several exceptions it is the first one "
                + "of the throws clause.");
        CHECK.refusesIndex("a wrong part and counts", Scenes::rich, field -> field.change(4, 0, 0, 120, false));
        CHECK.refusesIndex("a wrong part and tempo", Scenes::rich, field -> field.change(-1, 0, 8, 241, false));
        CHECK.refusesIndex("a wrong set and counts", Scenes::rich, field -> field.change(0, 4, 65, 120, false));
        CHECK.refusesIndex("a wrong set and tempo", Scenes::rich, field -> field.change(0, -1, 8, 59, false));
    }
}
