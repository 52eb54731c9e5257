/** Promises 22 to 27: lasts, clock, judge, penalty, ranked, rehearse. */
public final class ContestTest {
    private static final Check CHECK = new Check("ContestTest");

    public static void main(String[] args) {
        lasts();
        clock();
        clockRange();
        judge();
        judgeRange();
        penalty();
        ranked();
        rankedByCaptions();
        rankedByClock();
        rehearse();
        CHECK.end();
    }

    private static DrillField withParts(int... countsAndTempos) {
        DrillField field = new DrillField();
        field.line(0, 0, 300, 0);
        for (int i = 0; i + 1 < countsAndTempos.length; i += 2) {
            field.part(0, countsAndTempos[i], countsAndTempos[i + 1], false);
        }
        return field;
    }

    private static void lasts() {
        CHECK.due("no parts", withParts().lasts(), 0);
        CHECK.due("the shortest part", withParts(1, 240).lasts(), 2);
        CHECK.due("the longest part", withParts(64, 60).lasts(), 640);
        CHECK.due("rounded down for each part", withParts(1, 240, 1, 240, 1, 240).lasts(), 6);
        CHECK.due("rounded down", withParts(7, 121).lasts(), 34);
        DrillField field = withParts(8, 120, 16, 100);
        CHECK.due("two parts", field.lasts(), 40 + 96);
        field.cut();
        CHECK.due("one part", field.lasts(), 40);
        CHECK.due("twelve of the longest", withParts(64, 60, 64, 60, 64, 60, 64, 60, 64, 60, 64, 60,
                64, 60, 64, 60, 64, 60, 64, 60, 64, 60, 64, 60).lasts(), 7680);
    }

    private static int pointsOf(DrillField field, int band) {
        return field.judge(band, 0, 600);
    }

    private static void clock() {
        DrillField field = withParts(64, 60);
        CHECK.due("no clock at first", pointsOf(field, 0), 200);
        field.clock(640, 640);
        CHECK.due("just as long", pointsOf(field, 0), 200);
        field.clock(641, 9999);
        CHECK.due("one too short", pointsOf(field, 0), 199);
        CHECK.due("for the band 0 alone", pointsOf(field, 1), 200);
        field.clock(670, 9999);
        CHECK.due("30 too short", pointsOf(field, 0), 199);
        field.clock(671, 671);
        CHECK.due("31 too short", pointsOf(field, 0), 198);
        field.clock(0, 639);
        CHECK.due("one too long", pointsOf(field, 0), 199);
        field.clock(0, 610);
        CHECK.due("30 too long", pointsOf(field, 0), 199);
        field.clock(609, 609);
        CHECK.due("31 too long", pointsOf(field, 0), 198);
        field.clock(9999, 9999);
        CHECK.due("far too short", pointsOf(field, 0), 0);
        field.clock(0, 0);
        CHECK.due("640 too long", pointsOf(field, 0), 200 - 22);
        field.cut();
        CHECK.due("no show", pointsOf(field, 0), 200);
        field.clock(1, 9999);
        CHECK.due("no show is too short", pointsOf(field, 0), 199);
    }

    private static void clockRange() {
        DrillField field = withParts(64, 60);
        field.clock(650, 700);
        CHECK.argument("least -1", () -> field.clock(-1, 700));
        CHECK.argument("least 10000", () -> field.clock(10000, 10000));
        CHECK.argument("most 10000", () -> field.clock(0, 10000));
        CHECK.argument("most below least", () -> field.clock(600, 599));
        CHECK.argument("most MIN", () -> field.clock(0, Integer.MIN_VALUE));
        CHECK.due("nothing has changed", pointsOf(field, 0), 199);
        field.clock(0, 9999);
        CHECK.due("the widest clock", pointsOf(field, 0), 200);
    }

    private static void judge() {
        DrillField field = new DrillField();
        CHECK.due("the caption 0 counts twice", field.judge(5, 0, 1000), 333);
        CHECK.due("the caption 1 counts twice", field.judge(5, 1, 1000), 666);
        CHECK.due("the caption 2 counts once", field.judge(5, 2, 1000), 833);
        CHECK.due("the caption 3 counts once", field.judge(5, 3, 1000), 1000);
        CHECK.due("a caption is told anew", field.judge(5, 0, 0), 666);
        CHECK.due("another band", field.judge(4, 3, 5), 0);
        CHECK.due("rounded down together", field.judge(4, 2, 1), 1);
        CHECK.due("the band 0", field.judge(0, 1, 8), 2);
    }

    private static void judgeRange() {
        DrillField field = new DrillField();
        field.judge(1, 1, 300);
        CHECK.index("the band 6", () -> field.judge(6, 0, 0));
        CHECK.index("the band -1", () -> field.judge(-1, 0, 0));
        CHECK.index("the caption 4", () -> field.judge(0, 4, 0));
        CHECK.index("the caption -1 and wrong tenths", () -> field.judge(0, -1, 1001));
        CHECK.argument("1001 tenths", () -> field.judge(1, 1, 1001));
        CHECK.argument("-1 tenths", () -> field.judge(1, 1, -1));
        CHECK.due("nothing has changed", field.judge(1, 0, 0), 100);
    }

    private static void penalty() {
        DrillField field = new DrillField();
        field.judge(3, 0, 600);
        CHECK.due("penalties", field.penalty(3, 50), 150);
        CHECK.due("penalties are told anew", field.penalty(3, 199), 1);
        CHECK.due("0 at least", field.penalty(3, 1000), 0);
        CHECK.due("captions change them", field.judge(3, 1, 1000), 0);
        CHECK.due("no penalties", field.penalty(3, 0), 533);
        CHECK.index("the band 6", () -> field.penalty(6, 0));
        CHECK.index("the band -1 and wrong tenths", () -> field.penalty(-1, -1));
        CHECK.argument("1001 tenths", () -> field.penalty(3, 1001));
        CHECK.argument("-1 tenths", () -> field.penalty(3, -1));
        CHECK.due("nothing has changed", field.judge(3, 1, 1000), 533);
        CHECK.due("of another band", field.judge(2, 0, 600), 200);
    }

    private static void order(String what, DrillField field, int... bands) {
        for (int rank = 0; rank < bands.length; rank++) {
            CHECK.due(what + ", the rank " + rank, field.ranked(rank), bands[rank]);
        }
    }

    private static void ranked() {
        DrillField field = new DrillField();
        order("all without points", field, 0, 1, 2, 3, 4, 5);
        field.judge(4, 0, 300);
        field.judge(2, 0, 600);
        order("by points", field, 2, 4, 0, 1, 3, 5);
        field.penalty(2, 101);
        order("with penalties", field, 4, 2, 0, 1, 3, 5);
        CHECK.argument("the rank 6", () -> field.ranked(6));
        CHECK.argument("the rank -1", () -> field.ranked(-1));
    }

    private static void rankedByCaptions() {
        DrillField field = new DrillField();
        field.judge(0, 3, 600);
        field.judge(1, 2, 600);
        field.judge(2, 1, 300);
        field.judge(3, 0, 300);
        order("as many points, by captions", field, 3, 2, 1, 0, 4, 5);
        field.judge(4, 0, 300);
        order("then the lower band", field, 3, 4, 2, 1, 0, 5);
        field.judge(0, 3, 601);
        order("a rest does not count ahead of captions", field, 3, 4, 2, 1, 0, 5);
        field.judge(5, 3, 5);
        order("a caption ahead of the lower band", field, 3, 4, 2, 1, 0, 5);
        field.judge(5, 3, 601);
        order("the caption 3 last", field, 3, 4, 2, 1, 0, 5);
        field.judge(5, 3, 602);
        order("the caption 3 ahead of the band", field, 3, 4, 2, 1, 5, 0);
        field.penalty(3, 1000);
        field.judge(3, 0, 1000);
        order("points come first", field, 4, 2, 1, 5, 0, 3);
    }

    private static void rankedByClock() {
        DrillField field = withParts(64, 60);
        field.judge(0, 0, 600);
        field.judge(1, 0, 600);
        order("as many points", field, 0, 1, 2, 3, 4, 5);
        field.clock(700, 800);
        order("the band 0 loses", field, 1, 0, 2, 3, 4, 5);
        field.part(0, 64, 60, true);
        order("too long now", field, 1, 0, 2, 3, 4, 5);
        field.change(1, 0, 10, 100, true);
        order("just as long", field, 0, 1, 2, 3, 4, 5);
    }

    private static void rehearse() {
        DrillField field = new DrillField();
        int[][] due = {
            {1, 0, 1}, {50, 0, 50}, {51, 0, 61}, {100, 27, 110}, {101, 27, 121}, {9999, 27, 9999 + 1990},
            {1, 28, 1}, {30, 28, 30}, {31, 28, 41}, {60, 31, 70}, {61, 31, 81}, {9999, 31, 9999 + 3330},
            {1, 32, 1}, {20, 32, 20}, {21, 32, 41}, {40, 35, 60}, {41, 35, 81}, {9999, 35, 9999 + 9980},
            {1, 36, -1}, {9999, 60, -1},
        };
        for (int[] row : due) {
            CHECK.due("rehearse(" + row[0] + ", " + row[1] + ")", field.rehearse(row[0], row[1]), row[2]);
        }
        CHECK.argument("no minutes", () -> field.rehearse(0, 20));
        CHECK.argument("10000 minutes", () -> field.rehearse(10000, 20));
        CHECK.argument("the heat -1", () -> field.rehearse(10, -1));
        CHECK.argument("the heat 61", () -> field.rehearse(10, 61));
        CHECK.argument("no minutes in great heat", () -> field.rehearse(0, 60));
    }
}
