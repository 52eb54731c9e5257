/** Promise 24, judge: each sentence that names a boundary, at it and one step beyond it. */
public final class Promise24JudgeTest {
    private static final Check CHECK = new Check("Promise24JudgeTest");

    public static void main(String[] args) {
        tellsACaption();
        returnsThePoints();
        tenths();
        bandsAndCaptions();
        twoTimesTheFirstTwo();
        bySixRoundedDown();
        lessPenaltiesAndClock();
        zeroAtLeast();
        throwsIndexOfTheBand();
        throwsIndexOfTheCaption();
        throwsArgument();
        firstOfSeveralExceptions();
        CHECK.end();
    }

    private static void tellsACaption() {
        CHECK.sentence("Promise 24: Tells a caption.");
        DrillField field = new DrillField();
        CHECK.due("a caption", field.judge(2, 0, 300), 100);
        CHECK.due("told anew", field.judge(2, 0, 600), 200);
        CHECK.due("another caption", field.judge(2, 1, 300), 300);
        CHECK.due("another band", field.judge(3, 1, 300), 100);
        CHECK.due("told 0", field.judge(2, 0, 0), 100);
    }

    private static void returnsThePoints() {
        CHECK.sentence("Promise 24: Returns the points of the band then.");
        DrillField field = new DrillField();
        for (int band = 0; band < 6; band++) {
            CHECK.due("points of the band " + band, field.judge(band, 0, 150 * band), 50 * band);
        }
    }

    private static void tenths() {
        CHECK.sentence("Promise 24: tenths: 0 to 1000");
        DrillField field = new DrillField();
        CHECK.due("0", field.judge(0, 0, 0), 0);
        CHECK.due("1", field.judge(0, 0, 1), 0);
        CHECK.due("999", field.judge(0, 0, 999), 333);
        CHECK.due("1000", field.judge(0, 0, 1000), 333);
        CHECK.due("1000, and one of another caption", field.judge(0, 3, 4), 334);
        CHECK.refusesArgument("-1", Scenes::rich, other -> other.judge(0, 0, -1));
        CHECK.refusesArgument("1001", Scenes::rich, other -> other.judge(0, 0, 1001));
    }

    private static void bandsAndCaptions() {
        CHECK.sentence("Promise 24: There are the bands 0 to 5, each with four captions, 0 to 1000 tenths, 0 at first");
        DrillField field = new DrillField();
        for (int band = 0; band < 6; band++) {
            for (int caption = 0; caption < 4; caption++) {
                CHECK.due("the caption " + caption + " of the band " + band, field.judge(band, caption, 6),
                        caption < 2 ? 2 : 1);
                CHECK.due("told 0 again", field.judge(band, caption, 0), 0);
            }
        }
    }

    private static void twoTimesTheFirstTwo() {
        CHECK.sentence("Promise 24: Its points are 2 times the captions 0 and 1, and the captions 2 and 3, together");
        DrillField field = new DrillField();
        CHECK.due("the caption 0 twice", field.judge(5, 0, 1000), 333);
        CHECK.due("the caption 1 twice", field.judge(5, 1, 1000), 666);
        CHECK.due("the caption 2 once", field.judge(5, 2, 1000), 833);
        CHECK.due("the caption 3 once: the most of all", field.judge(5, 3, 1000), 1000);
        CHECK.due("one tenth less", field.judge(5, 3, 999), 999);
    }

    private static void bySixRoundedDown() {
        CHECK.sentence("Promise 24: by 6, rounded down");
        DrillField field = new DrillField();
        CHECK.due("5 by 6", field.judge(4, 3, 5), 0);
        CHECK.due("6 by 6", field.judge(4, 3, 6), 1);
        CHECK.due("7 by 6", field.judge(4, 3, 7), 1);
        CHECK.due("11 by 6, of two captions", field.judge(4, 2, 4), 1);
        CHECK.due("12 by 6, of two captions", field.judge(4, 2, 5), 2);
        CHECK.due("14 by 6, of three captions", field.judge(4, 1, 1), 2);
        CHECK.due("18 by 6, of four captions", field.judge(4, 0, 2), 3);
    }

    private static void lessPenaltiesAndClock() {
        CHECK.sentence("Promise 24: less its penalties, and what it loses by the clock");
        DrillField field = new DrillField();
        field.penalty(0, 50);
        field.penalty(1, 50);
        field.clock(61, 9999);
        CHECK.due("the band 0", field.judge(0, 0, 600), 200 - 50 - 3);
        CHECK.due("the band 1", field.judge(1, 0, 600), 200 - 50);
        CHECK.due("the band 2", field.judge(2, 0, 600), 200);
    }

    private static void zeroAtLeast() {
        CHECK.sentence("Promise 24: 0 at least.");
        DrillField field = new DrillField();
        field.penalty(1, 100);
        CHECK.due("one more than the penalties", field.judge(1, 0, 303), 1);
        CHECK.due("as many as the penalties", field.judge(1, 0, 300), 0);
        CHECK.due("one less than the penalties", field.judge(1, 0, 297), 0);
        field.clock(61, 9999);
        CHECK.due("one more than is lost by the clock", field.judge(0, 0, 12), 1);
        CHECK.due("as many as are lost by the clock", field.judge(0, 0, 9), 0);
        CHECK.due("one less than is lost by the clock", field.judge(0, 0, 6), 0);
        CHECK.due("nothing", field.judge(0, 0, 0), 0);
    }

    private static void throwsIndexOfTheBand() {
        CHECK.sentence("Promise 24: Throws IndexOutOfBoundsException as told, of the band or caption");
        int[] wrong = {Integer.MIN_VALUE, -2, -1, 6, 7, Integer.MAX_VALUE};
        for (int band : wrong) {
            CHECK.refusesIndex("the band " + band, Scenes::rich, field -> field.judge(band, 0, 500));
        }
    }

    private static void throwsIndexOfTheCaption() {
        CHECK.sentence("Promise 24: Throws IndexOutOfBoundsException as told, of the band or caption");
        int[] wrong = {Integer.MIN_VALUE, -2, -1, 4, 5, Integer.MAX_VALUE};
        for (int caption : wrong) {
            CHECK.refusesIndex("the caption " + caption, Scenes::rich, field -> field.judge(0, caption, 500));
            CHECK.refusesIndex("the caption " + caption + " of the last band", Scenes::rich, field -> field.judge(5,
                    caption, 500));
        }
        CHECK.refusesIndex("both", Scenes::rich, field -> field.judge(6, 4, 500));
    }

    private static void throwsArgument() {
        CHECK.sentence("Promise 24: Throws IllegalArgumentException as told");
        int[] wrong = {Integer.MIN_VALUE, -2, -1, 1001, 1002, Integer.MAX_VALUE};
        for (int tenths : wrong) {
            CHECK.refusesArgument("tenths " + tenths, Scenes::rich, field -> field.judge(2, 3, tenths));
        }
    }

    private static void firstOfSeveralExceptions() {
        CHECK.sentence("Promise 24: When a call throws, nothing has changed; of several exceptions it is the first one "
                + "of the throws clause.");
        CHECK.refusesIndex("a wrong band and tenths", Scenes::rich, field -> field.judge(6, 0, 1001));
        CHECK.refusesIndex("a wrong caption and tenths", Scenes::rich, field -> field.judge(0, -1, -1));
        CHECK.refusesIndex("all wrong", Scenes::rich, field -> field.judge(-1, 4, -1));
    }
}
