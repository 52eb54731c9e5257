/** Promise 27, rehearse: each sentence that names a boundary, at it and one step beyond it. */
public final class Promise27RehearseTest {
    private static final Check CHECK = new Check("Promise27RehearseTest");
    private static final DrillField FIELD = new DrillField();

    public static void main(String[] args) {
        heatBelow28();
        heatBelow32();
        heatBelow36();
        aboveThatNotAtAll();
        noRestBehindTheLastWork();
        minutes();
        heat();
        restsBetween();
        noneWithoutWork();
        throwsArgument();
        throwsArgumentInGreatHeat();
        nothingHasChanged();
        CHECK.end();
    }

    private static void lasts(int minutes, int heat, int due) {
        CHECK.due("rehearse(" + minutes + ", " + heat + ")", FIELD.rehearse(minutes, heat), due);
    }

    private static void heatBelow28() {
        CHECK.sentence("Promise 27: In a heat of less than 28 one works 50 minutes, then rests 10");
        lasts(51, 0, 61);
        lasts(51, 26, 61);
        lasts(51, 27, 61);
        lasts(51, 28, 61);
        lasts(50, 27, 50);
        lasts(50, 28, 60);
        lasts(200, 27, 230);
        lasts(200, 28, 260);
    }

    private static void heatBelow32() {
        CHECK.sentence("Promise 27: of less than 32, 30 and 10");
        lasts(31, 27, 31);
        lasts(31, 28, 41);
        lasts(31, 31, 41);
        lasts(31, 32, 51);
        lasts(30, 31, 30);
        lasts(200, 31, 260);
        lasts(200, 32, 380);
    }

    private static void heatBelow36() {
        CHECK.sentence("Promise 27: of less than 36, 20 and 20");
        lasts(21, 31, 21);
        lasts(21, 32, 41);
        lasts(21, 35, 41);
        lasts(20, 35, 20);
        lasts(200, 35, 380);
    }

    private static void aboveThatNotAtAll() {
        CHECK.sentence("Promise 27: above that not at all.");
        lasts(1, 35, 1);
        lasts(1, 36, -1);
        lasts(1, 37, -1);
        lasts(1, 60, -1);
        lasts(9999, 35, 9999 + 20 * 499);
        lasts(9999, 36, -1);
        CHECK.due("NONE", FIELD.rehearse(20, 36), DrillField.NONE);
    }

    private static void noRestBehindTheLastWork() {
        CHECK.sentence("Promise 27: Behind the last work there is no rest.");
        int[][] workAndRest = {{27, 50, 10}, {31, 30, 10}, {35, 20, 20}};
        for (int[] row : workAndRest) {
            for (int times = 1; times <= 4; times++) {
                int work = times * row[1];
                lasts(work - 1, row[0], work - 1 + (times - 1) * row[2]);
                lasts(work, row[0], work + (times - 1) * row[2]);
                lasts(work + 1, row[0], work + 1 + times * row[2]);
            }
        }
    }

    private static void minutes() {
        CHECK.sentence("Promise 27: minutes: 1 to 9999");
        lasts(1, 0, 1);
        lasts(2, 0, 2);
        lasts(9998, 0, 9998 + 10 * 199);
        lasts(9999, 0, 9999 + 10 * 199);
        lasts(9999, 28, 9999 + 10 * 333);
        CHECK.argument("no minutes", () -> FIELD.rehearse(0, 0));
        CHECK.argument("10000 minutes", () -> FIELD.rehearse(10000, 0));
    }

    private static void heat() {
        CHECK.sentence("Promise 27: heat: 0 to 60");
        lasts(60, 0, 70);
        lasts(60, 1, 70);
        lasts(60, 59, -1);
        lasts(60, 60, -1);
        CHECK.argument("the heat -1", () -> FIELD.rehearse(60, -1));
        CHECK.argument("the heat 61", () -> FIELD.rehearse(60, 61));
    }

    private static void restsBetween() {
        CHECK.sentence("Promise 27: Returns how long a rehearsal is with so many minutes of work, rests between "
                + "with it.");
        lasts(100, 20, 110);
        lasts(101, 20, 121);
        lasts(61, 30, 81);
        lasts(41, 33, 81);
    }

    private static void noneWithoutWork() {
        CHECK.sentence("Promise 27: Returns minutes; NONE if one does not work at all.");
        for (int heat = 0; heat <= 60; heat++) {
            lasts(20, heat, heat < 36 ? 20 : DrillField.NONE);
        }
    }

    private static void throwsArgument() {
        CHECK.sentence("Promise 27: Throws IllegalArgumentException as told");
        int[] wrongMinutes = {Integer.MIN_VALUE, -1, 0, 10000, 10001, Integer.MAX_VALUE};
        for (int minutes : wrongMinutes) {
            CHECK.refusesArgument(minutes + " minutes", Scenes::rich, field -> field.rehearse(minutes, 20));
        }
        int[] wrongHeats = {Integer.MIN_VALUE, -2, -1, 61, 62, Integer.MAX_VALUE};
        for (int heat : wrongHeats) {
            CHECK.refusesArgument("the heat " + heat, Scenes::rich, field -> field.rehearse(60, heat));
        }
        CHECK.refusesArgument("both", Scenes::nothing, field -> field.rehearse(0, 61));
    }

    private static void throwsArgumentInGreatHeat() {
        CHECK.sentence("Promise 27: Throws IllegalArgumentException as told");
        CHECK.refusesArgument("no minutes, no work", Scenes::nothing, field -> field.rehearse(0, 60));
        CHECK.refusesArgument("10000 minutes, no work", Scenes::nothing, field -> field.rehearse(10000, 36));
    }

    private static void nothingHasChanged() {
        CHECK.sentence("Promise 27: When a call throws, nothing has changed");
        CHECK.refusesArgument("no minutes", Scenes::allParts, field -> field.rehearse(0, 20));
        CHECK.refusesArgument("a heat of 61", Scenes::allParts, field -> field.rehearse(60, 61));
    }
}
