/** Promise 17, phase: each sentence that names a boundary, at it and one step beyond it. */
public final class Promise17PhaseTest {
    private static final Check CHECK = new Check("Promise17PhaseTest");

    public static void main(String[] args) {
        howFarApart();
        rootRoundedDown();
        bySixRoundedDown();
        greatestLessLeast();
        thoseWhoMarch();
        nobodyMarches();
        countOfThePart();
        xOfTheSeat();
        yOfTheSeat();
        farthestSeat();
        throwsIndex();
        throwsArgument();
        firstOfSeveralExceptions();
        CHECK.end();
    }

    private static int[] row(int... numbers) {
        return numbers;
    }

    /** The phase of two dots in a first part, to the seat at x 0, y -1. */
    private static int phase(int x, int y, int toX, int toY) {
        return Scenes.lines(2, row(x, y, toX, toY)).phase(0, 0, 0, -1);
    }

    private static void howFarApart() {
        CHECK.sentence("Promise 17: Returns how far apart sound comes to a seat.");
        DrillField field = Scenes.twoDots(10, 60, row(0, 5, 30, 39), row(0, 0, 0, 0));
        CHECK.due("6 and 50 tenths away: 1 and 8", field.phase(0, 0, 0, -1), 7);
        CHECK.due("the same in the next part", field.phase(1, 0, 0, -1), 7);
        CHECK.due("half of the way: 3 and 24 tenths away, 0 and 4", field.phase(1, 5, 0, -1), 4);
        CHECK.due("both at one place", field.phase(1, 10, 0, -1), 0);
    }

    private static void rootRoundedDown() {
        CHECK.sentence("Promise 17: Sound needs the root of the square of a distance, rounded down");
        CHECK.due("the square 34: the root 5", phase(0, 0, 5, 2), 0);
        CHECK.due("the square 36: the root 6", phase(0, 0, 0, 5), 1);
        CHECK.due("the square 37: the root 6", phase(0, 0, 6, 0), 1);
        CHECK.due("the square 137: the root 11", phase(0, 0, 4, 10), 1);
        CHECK.due("the square 144: the root 12", phase(0, 0, 0, 11), 2);
        CHECK.due("the square 145: the root 12", phase(0, 0, 12, 0), 2);
        CHECK.due("the square 3600: the root 60", phase(0, 0, 36, 47), 10);
        CHECK.due("the square 3578: the root 59", phase(0, 0, 37, 46), 9);
        CHECK.due("the square 1: the root 1", phase(0, 0, 0, 0), 0);
    }

    private static void bySixRoundedDown() {
        CHECK.sentence("Promise 17: by 6, rounded down, thousandths of a second.");
        CHECK.due("the root 5", phase(0, 0, 0, 4), 0);
        CHECK.due("the root 6", phase(0, 0, 0, 5), 1);
        CHECK.due("the root 7", phase(0, 0, 0, 6), 1);
        CHECK.due("the root 11", phase(0, 0, 0, 10), 1);
        CHECK.due("the root 12", phase(0, 0, 0, 11), 2);
        CHECK.due("the root 841", phase(0, 0, 0, 840), 140);
        CHECK.due("the root 840", phase(0, 0, 0, 839), 140);
        CHECK.due("the root 839", phase(0, 0, 0, 838), 139);
        CHECK.due("both rounded down: the roots 11 and 12", phase(0, 10, 0, 11), 1);
        CHECK.due("both rounded down: the roots 6 and 11", phase(0, 5, 0, 10), 0);
    }

    private static void greatestLessLeast() {
        CHECK.sentence("Promise 17: How far apart sound comes to a seat is the greatest such time of those that march "
                + "less the least.");
        DrillField field = Scenes.lines(10, row(0, 5, 0, 59));
        CHECK.due("ten in a row, the roots 6 to 60", field.phase(0, 0, 0, -1), 10 - 1);
        DrillField back = Scenes.lines(10, row(0, 59, 0, 5));
        CHECK.due("the other way round", back.phase(0, 0, 0, -1), 10 - 1);
        DrillField wedge = Scenes.withDots(3);
        wedge.wedge(300, 5, 100);
        wedge.part(0, 1, 60, false);
        CHECK.due("the nearest is the first, the two others are alike", wedge.phase(0, 0, 300, -1), 145 / 6 - 1);
        CHECK.due("the nearest is the second", wedge.phase(0, 0, 200, -1), 226 / 6 - 100 / 6);
    }

    private static void thoseWhoMarch() {
        CHECK.sentence("Promise 17: the greatest such time of those that march");
        DrillField field = Scenes.lines(4, row(0, 5, 0, 23));
        CHECK.due("the roots 6, 12, 18, 24", field.phase(0, 0, 0, -1), 3);
        field.ill(3, true);
        CHECK.due("without the last", field.phase(0, 0, 0, -1), 2);
        field.ill(0, true);
        CHECK.due("without the first", field.phase(0, 0, 0, -1), 1);
        field.alternate(1, 3, false);
        CHECK.due("an alternate of the last", field.phase(0, 0, 0, -1), 2);
        field.alternate(2, 0, false);
        CHECK.due("an alternate of the first", field.phase(0, 0, 0, -1), 3);
        field.alternate(2, 0, true);
        CHECK.due("he is ill", field.phase(0, 0, 0, -1), 2);
    }

    private static void nobodyMarches() {
        CHECK.sentence("Promise 17: Returns thousandths of a second; 0 if nobody marches.");
        DrillField field = Scenes.lines(2, row(0, 5, 1600, 840));
        field.ill(0, true);
        CHECK.due("one marches", field.phase(0, 0, 0, -1), 0);
        field.ill(1, true);
        CHECK.due("nobody marches", field.phase(0, 0, 0, -1), 0);
        CHECK.due("nobody marches, far away", field.phase(0, 1, 1600, -1000), 0);
        CHECK.argument("nobody marches: a wrong seat", () -> field.phase(0, 0, 0, 0));
        field.ill(0, false);
        CHECK.due("one marches again", field.phase(0, 0, 0, -1), 0);
        field.ill(1, false);
        CHECK.due("both march: the roots 6 and 1807", field.phase(0, 0, 0, -1), 1807 / 6 - 1);
    }

    private static void countOfThePart() {
        CHECK.sentence("Promise 17: count: 0 to the counts of the part");
        int[] counts = {1, 2, 63, 64};
        for (int told : counts) {
            DrillField field = Scenes.twoDots(told, 60, row(0, 0, 0, 5), row(0, 0, 0, 11));
            CHECK.due("the count 0 of " + told, field.phase(1, 0, 0, -1), 1);
            CHECK.due("the last count of " + told, field.phase(1, told, 0, -1), 2);
            CHECK.argument("the count -1", () -> field.phase(1, -1, 0, -1));
            CHECK.argument("one count more than " + told, () -> field.phase(1, told + 1, 0, -1));
            CHECK.due("the first part has one count", field.phase(0, 1, 0, -1), 1);
            CHECK.argument("and no more", () -> field.phase(0, 2, 0, -1));
        }
    }

    private static void xOfTheSeat() {
        CHECK.sentence("Promise 17: x: 0 to 1600: of the seat");
        DrillField field = Scenes.lines(2, row(0, 0, 1600, 0));
        CHECK.due("x 0", field.phase(0, 0, 0, -1), 1600 / 6);
        CHECK.due("x 1", field.phase(0, 0, 1, -1), 1599 / 6);
        CHECK.due("x 800", field.phase(0, 0, 800, -1), 0);
        CHECK.due("x 1599", field.phase(0, 0, 1599, -1), 1599 / 6);
        CHECK.due("x 1600", field.phase(0, 0, 1600, -1), 1600 / 6);
        CHECK.argument("x -1", () -> field.phase(0, 0, -1, -1));
        CHECK.argument("x 1601", () -> field.phase(0, 0, 1601, -1));
    }

    private static void yOfTheSeat() {
        CHECK.sentence("Promise 17: y: -1000 to -1");
        DrillField field = Scenes.lines(2, row(0, 0, 0, 5));
        CHECK.due("y -1: the roots 1 and 6", field.phase(0, 0, 0, -1), 1);
        CHECK.due("y -2: the roots 2 and 7", field.phase(0, 0, 0, -2), 1);
        CHECK.due("y -6: the roots 6 and 11", field.phase(0, 0, 0, -6), 0);
        CHECK.due("y -999: the roots 999 and 1004", field.phase(0, 0, 0, -999), 1);
        CHECK.due("y -1000: the roots 1000 and 1005", field.phase(0, 0, 0, -1000), 1);
        CHECK.due("y -996: the roots 996 and 1001", field.phase(0, 0, 0, -996), 0);
        CHECK.argument("y 0", () -> field.phase(0, 0, 0, 0));
        CHECK.argument("y -1001", () -> field.phase(0, 0, 0, -1001));
    }

    private static void farthestSeat() {
        CHECK.sentence("Promise 17: Sound needs the root of the square of a distance");
        DrillField field = Scenes.lines(2, row(0, 840, 1600, 0));
        CHECK.due("the roots 2438 and 1000", field.phase(0, 0, 1600, -1000), 406 - 166);
        CHECK.due("the roots 1840 and 1886", field.phase(0, 0, 0, -1000), 314 - 306);
        DrillField corners = Scenes.lines(2, row(0, 0, 1600, 840));
        CHECK.due("the roots 1 and 1807", corners.phase(0, 0, 0, -1), 301);
    }

    private static void throwsIndex() {
        CHECK.sentence("Promise 17: Throws IndexOutOfBoundsException as told");
        int[] wrong = {Integer.MIN_VALUE, -2, -1, 4, 5, 11, 12, Integer.MAX_VALUE};
        for (int part : wrong) {
            CHECK.refusesIndex("phase(" + part + ", 0, 0, -1) of four parts", Scenes::rich, field -> field.phase(part,
                    0, 0, -1));
        }
        CHECK.refusesIndex("phase of no part", Scenes::nothing, field -> field.phase(0, 0, 0, -1));
        DrillField field = Check.told(Scenes::allParts);
        CHECK.due("the part 11", field.phase(11, 0, 150, -1), 0);
        field.cut();
        CHECK.index("a part that was cut", () -> field.phase(11, 0, 150, -1));
    }

    private static void throwsArgument() {
        CHECK.sentence("Promise 17: Throws IllegalArgumentException as told");
        int[] wrongCounts = {Integer.MIN_VALUE, -1, 7, 8, 64, 65, Integer.MAX_VALUE};
        for (int count : wrongCounts) {
            CHECK.refusesArgument("the count " + count + " of 6", Scenes::rich, field -> field.phase(1, count, 0, -1));
        }
        int[] wrongXs = {Integer.MIN_VALUE, -1, 1601, 1 << 16, Integer.MAX_VALUE};
        for (int x : wrongXs) {
            CHECK.refusesArgument("x " + x, Scenes::rich, field -> field.phase(1, 0, x, -1));
        }
        int[] wrongYs = {Integer.MIN_VALUE, -1001, 0, 1, 840, Integer.MAX_VALUE};
        for (int y : wrongYs) {
            CHECK.refusesArgument("y " + y, Scenes::rich, field -> field.phase(1, 0, 0, y));
        }
    }

    private static void firstOfSeveralExceptions() {
        CHECK.sentence("Promise 17: When a call throws, nothing has changed; of several exceptions it is the first one "
                + "of the throws clause.");
        CHECK.refusesIndex("a wrong part and count", Scenes::rich, field -> field.phase(4, -1, 0, -1));
        CHECK.refusesIndex("a wrong part and seat", Scenes::rich, field -> field.phase(-1, 0, 1601, 0));
        CHECK.refusesArgument("all but the part", Scenes::rich, field -> field.phase(0, 5, -1, 0));
    }
}
