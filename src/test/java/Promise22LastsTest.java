/** Promise 22, lasts: each sentence that names a boundary, at it and one step beyond it. */
public final class Promise22LastsTest {
    private static final Check CHECK = new Check("Promise22LastsTest");

    public static void main(String[] args) {
        howLongTheShowLasts();
        emptyShow();
        roundedDown();
        roundedDownForEachPart();
        shortestAndLongest();
        afterChangeAndCut();
        CHECK.end();
    }

    private static DrillField withParts(int... countsAndTempos) {
        DrillField field = new DrillField();
        field.line(0, 0, 300, 0);
        for (int i = 0; i + 1 < countsAndTempos.length; i += 2) {
            field.part(0, countsAndTempos[i], countsAndTempos[i + 1], i % 4 == 0);
        }
        return field;
    }

    private static void howLongTheShowLasts() {
        CHECK.sentence("Promise 22: Returns how long the show lasts, in tenths of a second.");
        CHECK.due("8 counts of 120 a minute", withParts(8, 120).lasts(), 40);
        CHECK.due("two parts", withParts(8, 120, 16, 100).lasts(), 40 + 96);
        CHECK.due("one minute", withParts(60, 60).lasts(), 600);
        CHECK.due("the first part counts, too", withParts(60, 60, 1, 60).lasts(), 610);
    }

    private static void emptyShow() {
        CHECK.sentence("Promise 22: The show lasts, for each part");
        CHECK.due("a new object", new DrillField().lasts(), 0);
        CHECK.due("a set alone", withParts().lasts(), 0);
        CHECK.due("one part", withParts(1, 60).lasts(), 10);
    }

    private static void roundedDown() {
        CHECK.sentence("Promise 22: its counts times 600 by its tempo, rounded down");
        CHECK.due("600 by 199: 3.01", withParts(1, 199).lasts(), 3);
        CHECK.due("600 by 200: 3", withParts(1, 200).lasts(), 3);
        CHECK.due("600 by 201: 2.98", withParts(1, 201).lasts(), 2);
        CHECK.due("4200 by 121: 34.7", withParts(7, 121).lasts(), 34);
        CHECK.due("38400 by 61: 629.5", withParts(64, 61).lasts(), 629);
        CHECK.due("37800 by 240: 157.5", withParts(63, 240).lasts(), 157);
        CHECK.due("38400 by 240: 160", withParts(64, 240).lasts(), 160);
    }

    private static void roundedDownForEachPart() {
        CHECK.sentence("Promise 22: for each part, its counts times 600 by its tempo, rounded down, tenths of a "
                + "second, together.");
        CHECK.due("2.5 and 2.5", withParts(1, 240, 1, 240).lasts(), 4);
        CHECK.due("2.98 and 2.98 and 2.98", withParts(1, 201, 1, 201, 1, 201).lasts(), 6);
        CHECK.due("two counts in one part", withParts(2, 240).lasts(), 5);
    }

    private static void shortestAndLongest() {
        CHECK.sentence("Promise 22: a part is a set, counts, 1 to 64, in which it is reached from the set of the part "
                + "ahead, a tempo, 60 to 240 counts a minute");
        CHECK.due("the shortest part", withParts(1, 240).lasts(), 2);
        CHECK.due("the longest part", withParts(64, 60).lasts(), 640);
        DrillField longest = withParts(64, 60);
        DrillField shortest = withParts(1, 240);
        for (int part = 1; part < 12; part++) {
            longest.part(0, 64, 60, false);
            shortest.part(0, 1, 240, true);
            CHECK.due("the longest parts up to " + part, longest.lasts(), 640 * part + 640);
            CHECK.due("the shortest parts up to " + part, shortest.lasts(), 2 * part + 2);
        }
        CHECK.state("a part too many", () -> longest.part(0, 64, 60, false));
        CHECK.due("the longest show", longest.lasts(), 7680);
    }

    private static void afterChangeAndCut() {
        CHECK.sentence("Promise 22: Returns how long the show lasts");
        DrillField field = withParts(8, 120, 16, 100, 1, 240);
        field.change(1, 0, 17, 100, true);
        CHECK.due("another length", field.lasts(), 40 + 102 + 2);
        CHECK.argument("a wrong change", () -> field.change(1, 0, 65, 100, true));
        CHECK.due("the same length", field.lasts(), 40 + 102 + 2);
        field.cut();
        CHECK.due("a part less", field.lasts(), 40 + 102);
        field.cut();
        field.cut();
        CHECK.due("no part", field.lasts(), 0);
        CHECK.state("nothing to cut", field::cut);
        CHECK.due("no part", field.lasts(), 0);
    }
}
