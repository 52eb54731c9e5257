/** Promise 16, agrees: it holds at each boundary of faults, parts and ways. */
public final class Promise16AgreesTest {
    private static final Check CHECK = new Check("Promise16AgreesTest");

    public static void main(String[] args) {
        sameFaultsCountByCount();
        allPartsAndCounts();
        noTwoWouldWalkLess();
        noTwoOfAPartThatIsKept();
        firstPartAside();
        emptyShow();
        changesNothing();
        CHECK.end();
    }

    private static int[] row(int... numbers) {
        return numbers;
    }

    private static void sameFaultsCountByCount() {
        CHECK.sentence("Promise 16: Tells whether the same faults are found by going count by count through all parts, "
                + "all distances being had anew");
        int[][] ends = {{514, 500, 700, 500}, {515, 500, 700, 500}, {514, 500, 524, 500}, {514, 500, 523, 500},
            {512, 500, 511, 507}, {512, 500, 512, 500}};
        for (int[] end : ends) {
            DrillField field = Scenes.twoDots(1, 120, row(500, 500, 505, 505), end);
            field.legs(1, 40);
            CHECK.holds("agrees at the count 1", field.agrees());
            field.change(1, 1, 64, 240, false);
            CHECK.holds("agrees in 64 counts", field.agrees());
            field.ill(0, true);
            CHECK.holds("agrees with one who is ill", field.agrees());
            field.ill(1, true);
            CHECK.holds("agrees with nobody", field.agrees());
        }
    }

    private static void allPartsAndCounts() {
        CHECK.sentence("Promise 16: by going count by count through all parts");
        DrillField field = Scenes.withDots(10);
        field.line(0, 0, 1600, 840);
        field.block(100, 100, 3, 100);
        field.wedge(800, 0, 100);
        field.line(0, 0, 1600, 840);
        for (int part = 0; part < 12; part++) {
            field.part(part % 4, 64, 60 + 16 * part, part % 3 > 0);
            CHECK.holds("agrees with parts up to " + part, field.agrees());
        }
        for (int dot = 0; dot < 10; dot++) {
            field.legs(dot, dot % 2 == 0 ? 40 : 5);
            CHECK.holds("agrees with other legs", field.agrees());
        }
        for (int part = 11; part >= 0; part--) {
            field.cut();
            CHECK.holds("agrees with a part less", field.agrees());
        }
    }

    private static void noTwoWouldWalkLess() {
        CHECK.sentence("Promise 16: and whether no two dots of a part that is LEAST, the first one aside, "
                + "would walk less together by changing places.");
        for (int x = 49; x <= 51; x++) {
            DrillField field = Scenes.lines(2, row(0, 0, 100, 0), row(x, 50, 50, 0));
            field.change(1, 1, 64, 60, true);
            CHECK.holds("as much, or one tenth less: x " + x, field.agrees());
        }
        DrillField ten = Scenes.lines(10, row(100, 0, 1000, 0), row(1000, 0, 100, 0));
        ten.change(1, 1, 64, 60, true);
        CHECK.due("ten dots in reverse", ten.walking(1), 0);
        CHECK.holds("ten dots in reverse", ten.agrees());
    }

    private static void noTwoOfAPartThatIsKept() {
        CHECK.sentence("Promise 16: of a part that is LEAST");
        DrillField field = Scenes.lines(2, row(0, 0, 100, 0), row(100, 0, 0, 0));
        CHECK.due("KEPT: both walk", field.walking(1), 20000);
        CHECK.holds("KEPT: they would walk less by changing places", field.agrees());
        field.change(1, 1, 1, 60, true);
        CHECK.due("LEAST: nobody walks", field.walking(1), 0);
        CHECK.holds("LEAST", field.agrees());
    }

    private static void firstPartAside() {
        CHECK.sentence("Promise 16: the first one aside");
        DrillField field = Scenes.lines(3, row(300, 300, 0, 0));
        field.change(0, 0, 1, 60, true);
        CHECK.holds("a first part that is LEAST", field.agrees());
        field.change(0, 0, 64, 240, true);
        CHECK.holds("a first part that is LEAST, of 64 counts", field.agrees());
    }

    private static void emptyShow() {
        CHECK.sentence("Promise 16: through all parts");
        DrillField field = new DrillField();
        CHECK.holds("a new object", field.agrees());
        field.line(0, 0, 300, 0);
        CHECK.holds("no part", field.agrees());
        field.part(0, 1, 60, true);
        CHECK.holds("one part", field.agrees());
        field.cut();
        CHECK.holds("no part again", field.agrees());
    }

    private static void changesNothing() {
        CHECK.sentence("Promise 16: Tells whether the same faults are found");
        DrillField field = Check.told(Scenes::rich);
        CHECK.holds("agrees", field.agrees());
        int[] faults = new int[16];
        for (int i = 0; i < faults.length; i++) {
            faults[i] = field.fault(i / 4, i % 4);
        }
        CHECK.holds("agrees again", field.agrees());
        for (int i = 0; i < faults.length; i++) {
            CHECK.due("the same fault as before", field.fault(i / 4, i % 4), faults[i]);
        }
        CHECK.due("no page has changed by it", field.changed(), Check.told(Scenes::rich).changed());
    }
}
