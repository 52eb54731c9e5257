/** Promise 25, penalty: each sentence that names a boundary, at it and one step beyond it. */
public final class Promise25PenaltyTest {
    private static final Check CHECK = new Check("Promise25PenaltyTest");

    public static void main(String[] args) {
        tellsPenalties();
        returnsThePoints();
        tenths();
        lessItsPenalties();
        zeroAtLeast();
        throwsIndex();
        throwsArgument();
        firstOfSeveralExceptions();
        CHECK.end();
    }

    private static void tellsPenalties() {
        CHECK.sentence("Promise 25: Tells the penalties of a band.");
        DrillField field = new DrillField();
        field.judge(3, 0, 600);
        CHECK.due("penalties", field.penalty(3, 50), 150);
        CHECK.due("told anew, and not added", field.penalty(3, 60), 140);
        CHECK.due("no penalties", field.penalty(3, 0), 200);
    }

    private static void returnsThePoints() {
        CHECK.sentence("Promise 25: Returns the points of the band then.");
        DrillField field = new DrillField();
        for (int band = 0; band < 6; band++) {
            field.judge(band, 0, 150 * band + 30);
        }
        for (int band = 0; band < 6; band++) {
            CHECK.due("points of the band " + band, field.penalty(band, band), 50 * band + 10 - band);
        }
    }

    private static void tenths() {
        CHECK.sentence("Promise 25: tenths: 0 to 1000");
        DrillField field = new DrillField();
        for (int caption = 0; caption < 4; caption++) {
            field.judge(5, caption, 1000);
        }
        CHECK.due("0", field.penalty(5, 0), 1000);
        CHECK.due("1", field.penalty(5, 1), 999);
        CHECK.due("999", field.penalty(5, 999), 1);
        CHECK.due("1000", field.penalty(5, 1000), 0);
        CHECK.refusesArgument("-1", Scenes::rich, other -> other.penalty(2, -1));
        CHECK.refusesArgument("1001", Scenes::rich, other -> other.penalty(2, 1001));
    }

    private static void lessItsPenalties() {
        CHECK.sentence("Promise 25: less its penalties, and what it loses by the clock");
        DrillField field = new DrillField();
        field.judge(0, 0, 600);
        field.judge(1, 0, 600);
        field.clock(31, 9999);
        CHECK.due("the band 0", field.penalty(0, 50), 200 - 50 - 2);
        CHECK.due("the band 1", field.penalty(1, 50), 200 - 50);
        CHECK.due("the band 0 has its own ones", field.judge(0, 1, 0), 200 - 50 - 2);
        CHECK.due("a band without penalties", field.judge(2, 0, 600), 200);
    }

    private static void zeroAtLeast() {
        CHECK.sentence("Promise 25: 0 at least.");
        DrillField field = new DrillField();
        field.judge(4, 0, 300);
        CHECK.due("one less than the points", field.penalty(4, 99), 1);
        CHECK.due("as many as the points", field.penalty(4, 100), 0);
        CHECK.due("one more than the points", field.penalty(4, 101), 0);
        CHECK.due("what was too much is not forgotten", field.judge(4, 0, 306), 1);
        CHECK.due("of no points", field.penalty(3, 1000), 0);
    }

    private static void throwsIndex() {
        CHECK.sentence("Promise 25: Throws IndexOutOfBoundsException as told");
        int[] wrong = {Integer.MIN_VALUE, -2, -1, 6, 7, Integer.MAX_VALUE};
        for (int band : wrong) {
            CHECK.refusesIndex("the band " + band, Scenes::rich, field -> field.penalty(band, 10));
        }
        DrillField field = new DrillField();
        CHECK.due("the band 0", field.penalty(0, 10), 0);
        CHECK.due("the band 5", field.penalty(5, 10), 0);
    }

    private static void throwsArgument() {
        CHECK.sentence("Promise 25: Throws IllegalArgumentException as told");
        int[] wrong = {Integer.MIN_VALUE, -2, -1, 1001, 1002, Integer.MAX_VALUE};
        for (int tenths : wrong) {
            CHECK.refusesArgument("tenths " + tenths, Scenes::rich, field -> field.penalty(0, tenths));
        }
    }

    private static void firstOfSeveralExceptions() {
        CHECK.sentence("Promise 25: When a call throws, nothing has changed; of several exceptions it is the first one "
                + "of the throws clause.");
        CHECK.refusesIndex("a wrong band and tenths", Scenes::rich, field -> field.penalty(6, 1001));
        CHECK.refusesIndex("a wrong band and tenths", Scenes::rich, field -> field.penalty(-1, -1));
    }
}
