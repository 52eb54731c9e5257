/** Promise 23, clock: each sentence that names a boundary, at it and one step beyond it. */
public final class Promise23ClockTest {
    private static final Check CHECK = new Check("Promise23ClockTest");

    public static void main(String[] args) {
        tellsHowLong();
        least();
        most();
        atFirst();
        atLeastAsLong();
        atMostAsLong();
        eachThirtyBegunBelow();
        eachThirtyBegunAbove();
        byTheBandZero();
        farOutside();
        showThatChanges();
        throwsArgument();
        nothingHasChanged();
        CHECK.end();
    }

    /** A show of 640 tenths of a second; the band 0 has 200 tenths of a point, and loses of them. */
    private static DrillField show() {
        DrillField field = new DrillField();
        field.line(0, 0, 300, 0);
        field.part(0, 64, 60, false);
        field.judge(0, 0, 600);
        return field;
    }

    private static void loses(String what, DrillField field, int least, int most, int lost) {
        field.clock(least, most);
        CHECK.due(what + ": clock(" + least + ", " + most + ")", field.penalty(0, 0), 200 - lost);
    }

    private static void tellsHowLong() {
        CHECK.sentence("Promise 23: Tells how long it has to be.");
        DrillField field = show();
        loses("just as long", field, 640, 640, 0);
        loses("too short", field, 650, 700, 1);
        loses("too long", field, 600, 630, 1);
        loses("told anew", field, 600, 700, 0);
    }

    private static void least() {
        CHECK.sentence("Promise 23: least: 0 to 9999");
        DrillField field = show();
        loses("the least 0", field, 0, 9999, 0);
        loses("the least 1", field, 1, 9999, 0);
        loses("the least 9998", field, 9998, 9999, 200);
        loses("the least 9999", field, 9999, 9999, 200);
        CHECK.refusesArgument("the least -1", Scenes::rich, other -> other.clock(-1, 9999));
        CHECK.refusesArgument("the least 10000", Scenes::rich, other -> other.clock(10000, 10000));
    }

    private static void most() {
        CHECK.sentence("Promise 23: most: least to 9999");
        DrillField field = show();
        loses("the most 9999", field, 0, 9999, 0);
        loses("the most 9998", field, 0, 9998, 0);
        loses("the most as the least", field, 640, 640, 0);
        loses("the most one above the least", field, 639, 640, 0);
        loses("the most as the least, 0", field, 0, 0, 22);
        CHECK.refusesArgument("the most 10000", Scenes::rich, other -> other.clock(0, 10000));
        CHECK.refusesArgument("the most one below the least", Scenes::rich, other -> other.clock(640, 639));
        CHECK.refusesArgument("the most -1", Scenes::rich, other -> other.clock(0, -1));
    }

    private static void atFirst() {
        CHECK.sentence("Promise 23: 0 to 9999, 0 and 9999 at first");
        DrillField field = new DrillField();
        CHECK.due("an empty show", field.judge(0, 0, 600), 200);
        field.line(0, 0, 300, 0);
        for (int part = 0; part < 12; part++) {
            field.part(0, 64, 60, false);
        }
        CHECK.due("the longest show", field.penalty(0, 0), 200);
        field.clock(7680, 9999);
        CHECK.due("as the longest show", field.penalty(0, 0), 200);
        field.clock(7681, 9999);
        CHECK.due("one above the longest show", field.penalty(0, 0), 199);
    }

    private static void atLeastAsLong() {
        CHECK.sentence("Promise 23: It has to be at least, and at most, as long as is told");
        DrillField field = show();
        loses("one longer than the least", field, 639, 9999, 0);
        loses("as long as the least", field, 640, 9999, 0);
        loses("one shorter than the least", field, 641, 9999, 1);
    }

    private static void atMostAsLong() {
        CHECK.sentence("Promise 23: It has to be at least, and at most, as long as is told");
        DrillField field = show();
        loses("one shorter than the most", field, 0, 641, 0);
        loses("as long as the most", field, 0, 640, 0);
        loses("one longer than the most", field, 0, 639, 1);
    }

    private static void eachThirtyBegunBelow() {
        CHECK.sentence("Promise 23: for each 30 tenths of a second that are begun outside of that one tenth of a "
                + "point is lost");
        DrillField field = show();
        loses("0 outside", field, 640, 9999, 0);
        loses("1 outside", field, 641, 9999, 1);
        loses("29 outside", field, 669, 9999, 1);
        loses("30 outside", field, 670, 9999, 1);
        loses("31 outside", field, 671, 9999, 2);
        loses("60 outside", field, 700, 9999, 2);
        loses("61 outside", field, 701, 9999, 3);
    }

    private static void eachThirtyBegunAbove() {
        CHECK.sentence("Promise 23: for each 30 tenths of a second that are begun outside of that one tenth of a "
                + "point is lost");
        DrillField field = show();
        loses("0 outside", field, 0, 640, 0);
        loses("1 outside", field, 0, 639, 1);
        loses("29 outside", field, 0, 611, 1);
        loses("30 outside", field, 0, 610, 1);
        loses("31 outside", field, 0, 609, 2);
        loses("60 outside", field, 0, 580, 2);
        loses("61 outside", field, 0, 579, 3);
        loses("all 640 outside", field, 0, 0, 22);
    }

    private static void byTheBandZero() {
        CHECK.sentence("Promise 23: is lost by the band 0.");
        DrillField field = show();
        field.clock(641, 9999);
        CHECK.due("the band 0", field.judge(0, 0, 600), 199);
        for (int band = 1; band < 6; band++) {
            CHECK.due("the band " + band, field.judge(band, 0, 600), 200);
        }
        CHECK.due("the first rank", field.ranked(0), 1);
        CHECK.due("the last rank", field.ranked(5), 0);
        field.clock(640, 640);
        CHECK.due("the first rank again", field.ranked(0), 0);
    }

    private static void farOutside() {
        CHECK.sentence("Promise 23: and what it loses by the clock, 0 at least.");
        DrillField field = show();
        loses("199 lost", field, 640 + 199 * 30, 9999, 199);
        loses("200 lost", field, 640 + 199 * 30 + 1, 9999, 200);
        loses("201 would be lost", field, 640 + 200 * 30 + 1, 9999, 200);
        field.judge(0, 1, 1000);
        field.judge(0, 0, 1000);
        field.clock(9999, 9999);
        CHECK.due("9359 outside: 312 lost", field.penalty(0, 0), 666 - 312);
        field.cut();
        CHECK.due("9999 outside: 334 lost", field.penalty(0, 0), 666 - 334);
    }

    private static void showThatChanges() {
        CHECK.sentence("Promise 23: Tells how long it has to be.");
        DrillField field = show();
        field.clock(650, 660);
        CHECK.due("640: too short", field.penalty(0, 0), 199);
        field.part(0, 1, 60, false);
        CHECK.due("650: as long as the least", field.penalty(0, 0), 200);
        field.change(1, 0, 2, 60, false);
        CHECK.due("660: as long as the most", field.penalty(0, 0), 200);
        field.change(1, 0, 3, 60, false);
        CHECK.due("670: too long", field.penalty(0, 0), 199);
        field.cut();
        field.cut();
        CHECK.due("no show: too short by 650", field.penalty(0, 0), 200 - 22);
    }

    private static void throwsArgument() {
        CHECK.sentence("Promise 23: Throws IllegalArgumentException as told");
        int[][] wrong = {{Integer.MIN_VALUE, 9999}, {-1, -1}, {-1, 0}, {0, -1}, {1, 0}, {9999, 9998}, {5, 4}, {0,
                10000},
            {9999, 10000}, {10000, 9999}, {10000, 10000}, {0, Integer.MAX_VALUE}, {Integer.MAX_VALUE,
                    Integer.MAX_VALUE},
            {0, Integer.MIN_VALUE}, {Integer.MIN_VALUE, Integer.MIN_VALUE}, {Integer.MIN_VALUE, Integer.MAX_VALUE}};
        for (int[] told : wrong) {
            CHECK.refusesArgument("clock(" + told[0] + ", " + told[1] + ")", Scenes::rich,
                    field -> field.clock(told[0], told[1]));
        }
    }

    private static void nothingHasChanged() {
        CHECK.sentence("Promise 23: When a call throws, nothing has changed");
        CHECK.refusesArgument("a fine least, a wrong most", Scenes::rich, field -> field.clock(0, 10000));
        CHECK.refusesArgument("a wrong least, a fine most", Scenes::rich, field -> field.clock(-1, 9999));
        DrillField field = show();
        field.clock(641, 641);
        CHECK.argument("a clock that would be kept", () -> field.clock(640, 639));
        CHECK.due("one is lost as before", field.penalty(0, 0), 199);
        CHECK.argument("a wider one that would be kept", () -> field.clock(0, 10000));
        CHECK.due("one is lost as before", field.penalty(0, 0), 199);
    }
}
