/** Promise 26, ranked: each sentence that names a boundary, at it and one step beyond it. */
public final class Promise26RankedTest {
    private static final Check CHECK = new Check("Promise26RankedTest");

    public static void main(String[] args) {
        bandAtARank();
        rankZeroToFive();
        byTheirPoints();
        thenByTheCaptions();
        eachCaptionAheadOfTheNext();
        thenTheLowerBand();
        pointsOfZeroAtLeast();
        pointsByTheClock();
        changesNothing();
        throwsArgument();
        nothingHasChanged();
        CHECK.end();
    }

    private static void order(String what, DrillField field, int... bands) {
        for (int rank = 0; rank < bands.length; rank++) {
            CHECK.due(what + ", the rank " + rank, field.ranked(rank), bands[rank]);
        }
    }

    private static void bandAtARank() {
        CHECK.sentence("Promise 26: Returns the band at a rank.");
        DrillField field = new DrillField();
        for (int band = 0; band < 6; band++) {
            field.judge(band, 0, 100 * band);
        }
        order("rising points", field, 5, 4, 3, 2, 1, 0);
        for (int band = 0; band < 6; band++) {
            field.judge(band, 0, 100 * ((band + 3) % 6));
        }
        order("others", field, 2, 1, 0, 5, 4, 3);
    }

    private static void rankZeroToFive() {
        CHECK.sentence("Promise 26: rank: 0 for the first one, to 5");
        DrillField field = new DrillField();
        field.judge(5, 0, 1000);
        CHECK.argument("the rank -1", () -> field.ranked(-1));
        CHECK.due("the rank 0", field.ranked(0), 5);
        CHECK.due("the rank 1", field.ranked(1), 0);
        CHECK.due("the rank 4", field.ranked(4), 3);
        CHECK.due("the rank 5", field.ranked(5), 4);
        CHECK.argument("the rank 6", () -> field.ranked(6));
    }

    private static void byTheirPoints() {
        CHECK.sentence("Promise 26: Bands are ranked by their points");
        DrillField field = new DrillField();
        field.judge(0, 0, 600);
        field.judge(1, 0, 603);
        order("one point more", field, 1, 0, 2, 3, 4, 5);
        field.penalty(1, 2);
        order("one point less", field, 0, 1, 2, 3, 4, 5);
        field.judge(3, 3, 1000);
        field.judge(3, 2, 207);
        order("one point more by the last captions", field, 3, 0, 1, 2, 4, 5);
        field.judge(3, 2, 201);
        order("as many points, less of the caption 0", field, 0, 3, 1, 2, 4, 5);
    }

    private static void thenByTheCaptions() {
        CHECK.sentence("Promise 26: then by the caption 0, 1, 2, 3, the greater first");
        DrillField field = new DrillField();
        field.judge(0, 3, 600);
        field.judge(1, 2, 600);
        field.judge(2, 1, 300);
        field.judge(3, 0, 300);
        order("as many points", field, 3, 2, 1, 0, 4, 5);
        field.judge(4, 0, 299);
        field.judge(4, 3, 2);
        order("the caption 0 one less", field, 3, 4, 2, 1, 0, 5);
        field.judge(4, 0, 301);
        field.judge(4, 3, 0);
        order("the caption 0 one more", field, 4, 3, 2, 1, 0, 5);
    }

    private static void eachCaptionAheadOfTheNext() {
        CHECK.sentence("Promise 26: by the caption 0, 1, 2, 3");
        for (int caption = 0; caption < 4; caption++) {
            DrillField field = new DrillField();
            for (int other = caption + 1; other < 4; other++) {
                field.judge(0, other, 1);
            }
            field.judge(4, caption, 2);
            order("the caption " + caption + " alone, ahead of all the next", field, 4, 0, 1, 2, 3, 5);
            field.judge(2, caption, 2);
            order("two of them", field, 2, 4, 0, 1, 3, 5);
            field.judge(2, caption, 1);
            order("one less", field, 4, 2, 0, 1, 3, 5);
            field.judge(5, caption, 3);
            order("the last band", field, 5, 4, 2, 0, 1, 3);
            field.judge(1, caption, 4);
            order("the band 1", field, 1, 5, 4, 2, 0, 3);
        }
    }

    private static void thenTheLowerBand() {
        CHECK.sentence("Promise 26: then the lower band.");
        DrillField field = new DrillField();
        order("all alike at first", field, 0, 1, 2, 3, 4, 5);
        for (int band = 5; band >= 0; band--) {
            for (int caption = 3; caption >= 0; caption--) {
                field.judge(band, caption, 1000);
            }
        }
        order("all alike with the most points", field, 0, 1, 2, 3, 4, 5);
        field.penalty(2, 1);
        field.penalty(3, 1);
        order("two pairs alike", field, 0, 1, 4, 5, 2, 3);
    }

    private static void pointsOfZeroAtLeast() {
        CHECK.sentence("Promise 26: 0 at least.");
        DrillField field = new DrillField();
        field.judge(1, 0, 300);
        field.penalty(1, 100);
        field.judge(2, 0, 301);
        field.penalty(2, 1000);
        order("no points left: by the captions", field, 2, 1, 0, 3, 4, 5);
        field.penalty(1, 99);
        order("one point left", field, 1, 2, 0, 3, 4, 5);
    }

    private static void pointsByTheClock() {
        CHECK.sentence("Promise 26: for each 30 tenths of a second that are begun outside of that one tenth of a point "
                + "is lost by the band 0.");
        DrillField field = new DrillField();
        field.line(0, 0, 300, 0);
        field.part(0, 64, 60, false);
        field.judge(0, 0, 603);
        field.judge(1, 0, 600);
        field.clock(640, 640);
        order("nothing is lost", field, 0, 1, 2, 3, 4, 5);
        field.clock(641, 641);
        order("one is lost: as many points, more of the caption 0", field, 0, 1, 2, 3, 4, 5);
        field.clock(671, 671);
        order("two are lost", field, 1, 0, 2, 3, 4, 5);
        field.change(0, 0, 63, 60, false);
        order("three are lost", field, 1, 0, 2, 3, 4, 5);
        field.part(0, 4, 60, false);
        order("one is lost again", field, 0, 1, 2, 3, 4, 5);
    }

    private static void changesNothing() {
        CHECK.sentence("Promise 26: Returns the band at a rank.");
        DrillField field = Check.told(Scenes::rich);
        int[] bands = new int[6];
        for (int rank = 5; rank >= 0; rank--) {
            bands[rank] = field.ranked(rank);
        }
        order("asked again", field, bands);
        int all = 0;
        for (int band : bands) {
            all |= 1 << band;
        }
        CHECK.due("each band has one rank", all, 63);
    }

    private static void throwsArgument() {
        CHECK.sentence("Promise 26: Throws IllegalArgumentException as told");
        int[] wrong = {Integer.MIN_VALUE, -2, -1, 6, 7, Integer.MAX_VALUE};
        for (int rank : wrong) {
            CHECK.refusesArgument("the rank " + rank, Scenes::rich, field -> field.ranked(rank));
            CHECK.refusesArgument("the rank " + rank + " of a new object", Scenes::nothing,
                    field -> field.ranked(rank));
        }
    }

    private static void nothingHasChanged() {
        CHECK.sentence("Promise 26: When a call throws, nothing has changed");
        CHECK.refusesArgument("a rank behind the last one", Scenes::allParts, field -> field.ranked(6));
        CHECK.refusesArgument("a rank ahead of the first one", Scenes::allParts, field -> field.ranked(-1));
    }
}
