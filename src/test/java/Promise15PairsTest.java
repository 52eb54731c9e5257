/** Promise 15, fault: nearness and crossings, each sentence that names a boundary, at it and one step beyond it. */
public final class Promise15PairsTest {
    private static final Check CHECK = new Check("Promise15PairsTest");

    public static void main(String[] args) {
        squareOfTheDistance();
        nearPairsByRisingNumbers();
        nearPairsThatMarch();
        waysDoNotCross();
        otherStartsBesideTheWay();
        otherEndsBesideTheWay();
        oneStartsBesideTheOthersWay();
        oneEndsBesideTheOthersWay();
        asLittleBesideAsCanBe();
        noneOnTheLine();
        unlikeSidesOfOneLineAlone();
        waysOfThisCount();
        crossingPairsByRisingNumbers();
        crossingPairsThatMarch();
        firstPartCrossesNothing();
        widestWays();
        CHECK.end();
    }

    private static int[] row(int... numbers) {
        return numbers;
    }

    /** Two dots make one step each, from a and c to b and d, with the longest legs. */
    private static DrillField ways(int[] a, int[] b, int[] c, int[] d) {
        DrillField field = Scenes.twoDots(1, 120, row(a[0], a[1], c[0], c[1]), row(b[0], b[1], d[0], d[1]));
        Scenes.longestLegs(field, 2);
        return field;
    }

    private static void cross(String what, int[] a, int[] b, int[] c, int[] d) {
        Scenes.fault(CHECK, what, ways(a, b, c, d), 1, 1, DrillField.CROSS, 0, 1);
        Scenes.fault(CHECK, what + ", dots changed", ways(c, d, a, b), 1, 1, DrillField.CROSS, 0, 1);
        Scenes.fault(CHECK, what + ", mirrored", ways(mirrored(a), mirrored(b), mirrored(c), mirrored(d)), 1, 1,
                DrillField.CROSS, 0, 1);
    }

    private static void doNotCross(String what, int[] a, int[] b, int[] c, int[] d) {
        Scenes.noFault(CHECK, what, ways(a, b, c, d), 1);
        Scenes.noFault(CHECK, what + ", dots changed", ways(c, d, a, b), 1);
        Scenes.noFault(CHECK, what + ", mirrored", ways(mirrored(a), mirrored(b), mirrored(c), mirrored(d)), 1);
    }

    private static int[] mirrored(int[] place) {
        return row(1600 - place[0], place[1]);
    }

    private static void squareOfTheDistance() {
        CHECK.sentence("Promise 15: the square of their distance is at least 100.");
        int[][] fine = {{10, 0}, {0, 10}, {6, 8}, {8, 6}, {-6, 8}, {6, -8}, {1, 10}, {-10, 0}};
        for (int[] apart : fine) {
            DrillField field = Scenes.lines(2, row(500, 500, 500 + apart[0], 500 + apart[1]));
            Scenes.noFault(CHECK, "apart by " + apart[0] + " and " + apart[1], field, 0);
        }
        int[][] near = {{9, 0}, {0, 9}, {-9, 0}, {0, -9}, {7, 7}, {-7, 7}, {9, 4}, {8, 5}, {0, 0}, {1, 1}};
        for (int[] apart : near) {
            DrillField field = Scenes.lines(2, row(500, 500, 500 + apart[0], 500 + apart[1]));
            Scenes.fault(CHECK, "apart by " + apart[0] + " and " + apart[1], field, 0, 1, DrillField.NEAR, 0, 1);
        }
    }

    private static void nearPairsByRisingNumbers() {
        CHECK.sentence("Promise 15: Then nearness: of each two that march, by rising lower, then other ones");
        DrillField all = Scenes.lines(10, row(500, 500, 500, 500));
        for (int lower = 0; lower < 9; lower++) {
            Scenes.fault(CHECK, "all at one place", all, 0, 1, DrillField.NEAR, lower, lower + 1);
            all.ill(lower, true);
        }
        Scenes.noFault(CHECK, "the last dot alone", all, 0);
        DrillField columns = Scenes.withDots(6);
        columns.block(100, 100, 3, 5);
        columns.part(0, 1, 120, false);
        Scenes.fault(CHECK, "the lower dot, then the lowest other one", columns, 0, 1, DrillField.NEAR, 0, 1);
        columns.ill(1, true);
        Scenes.fault(CHECK, "without the dot 1, one who is farther", columns, 0, 1, DrillField.NEAR, 0, 3);
        columns.ill(3, true);
        Scenes.fault(CHECK, "without the dot 3", columns, 0, 1, DrillField.NEAR, 0, 4);
        columns.ill(4, true);
        Scenes.fault(CHECK, "without the dot 4", columns, 0, 1, DrillField.NEAR, 2, 5);
    }

    private static void nearPairsThatMarch() {
        CHECK.sentence("Promise 15: of each two that march");
        DrillField field = Scenes.lines(2, row(500, 500, 505, 500));
        Scenes.fault(CHECK, "both march", field, 0, 1, DrillField.NEAR, 0, 1);
        field.ill(1, true);
        Scenes.noFault(CHECK, "the other is ill", field, 0);
        field.alternate(0, 1, false);
        Scenes.fault(CHECK, "he has an alternate", field, 0, 1, DrillField.NEAR, 0, 1);
        field.ill(0, true);
        Scenes.noFault(CHECK, "the lower is ill", field, 0);
        field.alternate(2, 0, false);
        Scenes.fault(CHECK, "both have alternates", field, 0, 1, DrillField.NEAR, 0, 1);
        field.alternate(2, 0, true);
        Scenes.noFault(CHECK, "one alternate is ill", field, 0);
    }

    private static void waysDoNotCross() {
        CHECK.sentence("Promise 15: Then crossings: of each two likewise, the ways of this count do not cross");
        cross("in the middle", row(20, 20), row(30, 30), row(30, 20), row(20, 30));
        doNotCross("side by side", row(20, 20), row(30, 30), row(31, 20), row(41, 30));
        doNotCross("one behind the other", row(20, 20), row(30, 20), row(31, 20), row(41, 20));
        doNotCross("away from one another", row(20, 20), row(10, 20), row(30, 20), row(40, 20));
    }

    /** The way of the one lies on x 20, from y 20 to y 40; the other's way starts one tenth to the left, or on it,
            or not. */
    private static void otherStartsBesideTheWay() {
        CHECK.sentence("Promise 15: they cross, if the ends of each lie on unlike sides of the line of the other "
                + "one, none on it.");
        cross("starts on the other side", row(20, 20), row(20, 40), row(19, 30), row(40, 30));
        doNotCross("starts on the line", row(20, 20), row(20, 40), row(20, 30), row(40, 30));
        doNotCross("starts on the same side", row(20, 20), row(20, 40), row(21, 30), row(40, 30));
    }

    private static void otherEndsBesideTheWay() {
        CHECK.sentence("Promise 15: they cross, if the ends of each lie on unlike sides of the line of the other "
                + "one, none on it.");
        cross("ends on the other side", row(20, 20), row(20, 40), row(40, 28), row(19, 28));
        doNotCross("ends on the line", row(20, 20), row(20, 40), row(40, 28), row(20, 28));
        doNotCross("ends on the same side", row(20, 20), row(20, 40), row(40, 28), row(21, 28));
    }

    private static void oneStartsBesideTheOthersWay() {
        CHECK.sentence("Promise 15: they cross, if the ends of each lie on unlike sides of the line of the other "
                + "one, none on it.");
        cross("starts on the other side", row(30, 29), row(30, 50), row(10, 30), row(40, 30));
        doNotCross("starts on the line", row(30, 30), row(30, 50), row(10, 30), row(40, 30));
        doNotCross("starts on the same side", row(30, 31), row(30, 50), row(10, 30), row(40, 30));
    }

    private static void oneEndsBesideTheOthersWay() {
        CHECK.sentence("Promise 15: they cross, if the ends of each lie on unlike sides of the line of the other "
                + "one, none on it.");
        cross("ends on the other side", row(28, 50), row(28, 29), row(10, 30), row(40, 30));
        doNotCross("ends on the line", row(28, 50), row(28, 30), row(10, 30), row(40, 30));
        doNotCross("ends on the same side", row(28, 50), row(28, 31), row(10, 30), row(40, 30));
    }

    /** The place x 20, y 21 lies less than a tenth beside the way of the one. */
    private static void asLittleBesideAsCanBe() {
        CHECK.sentence("Promise 15: lie on unlike sides of the line of the other one, none on it.");
        cross("starts beside", row(20, 20), row(21, 34), row(20, 21), row(25, 20));
        cross("ends beside", row(20, 20), row(21, 34), row(25, 20), row(20, 21));
        cross("starts beside, the way being back", row(21, 34), row(20, 20), row(20, 33), row(31, 33));
        doNotCross("starts there, and goes away from the way", row(20, 20), row(21, 34), row(20, 21), row(10, 22));
    }

    private static void noneOnTheLine() {
        CHECK.sentence("Promise 15: none on it.");
        doNotCross("who stays has no line", row(25, 25), row(25, 25), row(10, 10), row(37, 37));
        doNotCross("both stay", row(25, 25), row(25, 25), row(35, 25), row(35, 25));
        doNotCross("places changed", row(20, 20), row(40, 20), row(40, 20), row(20, 20));
        doNotCross("through one another on one line", row(20, 20), row(40, 40), row(45, 45), row(25, 25));
        doNotCross("both start at one place", row(20, 20), row(20, 40), row(20, 20), row(40, 20));
        doNotCross("one starts where the other ends", row(20, 20), row(20, 40), row(20, 40), row(40, 40));
    }

    private static void unlikeSidesOfOneLineAlone() {
        CHECK.sentence("Promise 15: if the ends of each lie on unlike sides of the line of the other one");
        doNotCross("a way that ends ahead of the other", row(20, 0), row(12, 18), row(20, 10), row(26, 22));
        doNotCross("a way that starts behind the other", row(12, 18), row(20, 0), row(26, 22), row(20, 10));
        doNotCross("the line of the one parts the other's ends", row(20, 20), row(20, 30), row(10, 41), row(30, 41));
        cross("the way of the one parts them", row(20, 20), row(20, 42), row(9, 41), row(31, 41));
    }

    /** At the first count they come to one another, at the second one they cross; over both the ways would cross,
            too. */
    private static void waysOfThisCount() {
        CHECK.sentence("Promise 15: the ways of this count do not cross");
        DrillField field = Scenes.twoDots(2, 120, row(0, 0, 90, 0), row(60, 20, 30, 20));
        Scenes.longestLegs(field, 2);
        Scenes.fault(CHECK, "at the count 2", field, 1, 2, DrillField.CROSS, 0, 1);
        field.change(1, 1, 3, 120, false);
        Scenes.fault(CHECK, "at the count 3 of 3", field, 1, 3, DrillField.CROSS, 0, 1);
        DrillField apart = Scenes.twoDots(4, 120, row(0, 0, 60, 0), row(60, 20, 0, 20));
        Scenes.longestLegs(apart, 2);
        Scenes.fault(CHECK, "near where they would cross", apart, 1, 2, DrillField.NEAR, 0, 1);
        DrillField later = Scenes.twoDots(4, 120, row(0, 0, 40, 20), row(80, 0, 40, 60));
        Scenes.longestLegs(later, 2);
        Scenes.noFault(CHECK, "one after the other at a place", later, 1);
    }

    private static DrillField tenInPairs() {
        DrillField field = Scenes.withDots(10);
        field.block(100, 100, 2, 20);
        field.block(100, 100, 2, 20);
        field.part(0, 1, 120, false);
        return field;
    }

    private static void crossingPairsByRisingNumbers() {
        CHECK.sentence("Promise 15: of each two likewise");
        DrillField field = Scenes.withDots(4);
        Scenes.longestLegs(field, 4);
        field.block(100, 100, 2, 20);
        field.line(130, 115, 94, 112);
        field.part(0, 1, 120, false);
        field.part(1, 1, 120, false);
        // from (100,100), (120,100), (100,120), (120,120) to (130,115), (118,114), (106,113), (94,112)
        Scenes.fault(CHECK, "the lowest pair", field, 1, 1, DrillField.CROSS, 0, 1);
        field.ill(1, true);
        Scenes.fault(CHECK, "the dots 2 and 3", field, 1, 1, DrillField.CROSS, 2, 3);
        field.ill(3, true);
        Scenes.noFault(CHECK, "the dots 0 and 2", field, 1);
        field.alternate(0, 1, false);
        Scenes.fault(CHECK, "the lowest pair again", field, 1, 1, DrillField.CROSS, 0, 1);
    }

    private static void crossingPairsThatMarch() {
        CHECK.sentence("Promise 15: of each two that march");
        DrillField field = ways(row(20, 20), row(30, 30), row(30, 20), row(20, 30));
        Scenes.fault(CHECK, "both march", field, 1, 1, DrillField.CROSS, 0, 1);
        field.ill(1, true);
        Scenes.noFault(CHECK, "the other is ill", field, 1);
        field.alternate(0, 1, false);
        Scenes.fault(CHECK, "he has an alternate", field, 1, 1, DrillField.CROSS, 0, 1);
        field.ill(0, true);
        Scenes.noFault(CHECK, "the lower is ill", field, 1);
        field.alternate(1, 0, true);
        Scenes.noFault(CHECK, "his alternate is ill, too", field, 1);
        field.alternate(1, 0, false);
        Scenes.fault(CHECK, "his alternate is well", field, 1, 1, DrillField.CROSS, 0, 1);
    }

    private static void firstPartCrossesNothing() {
        CHECK.sentence("Promise 15: In the first part at the count 1 steps are 0.");
        DrillField field = tenInPairs();
        Scenes.noFault(CHECK, "nobody has a way", field, 0);
        field.part(1, 64, 240, true);
        Scenes.noFault(CHECK, "nor in the same set again", field, 1);
    }

    /** Ways of 40 tenths each, and ways that cross near to where both start, towards unlike sides. */
    private static void widestWays() {
        CHECK.sentence("Promise 15: they cross, if the ends of each lie on unlike sides of the line of the other one");
        cross("as long as legs can be", row(100, 100), row(140, 100), row(120, 80), row(120, 120));
        cross("ends far apart", row(100, 100), row(139, 100), row(138, 101), row(101, 98));
        cross("starts far apart", row(139, 100), row(100, 100), row(101, 98), row(113, 101));
        cross("ends as far apart as they can", row(500, 500), row(532, 524), row(501, 501), row(474, 472));
        doNotCross("one tenth beside", row(500, 500), row(532, 524), row(501, 500), row(474, 472));
    }
}
