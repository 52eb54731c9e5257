/** Promises 17 and 18: phase, caught. */
public final class SoundTest {
    private static final Check CHECK = new Check("SoundTest");

    public static void main(String[] args) {
        phase();
        phaseOfThoseWhoMarch();
        phaseRange();
        caught();
        caughtAtTheLastCount();
        caughtRange();
        CHECK.end();
    }

    /** Two dots who go from one line to another in ten counts. */
    private static DrillField twoDots(int[] from, int[] to) {
        DrillField field = new DrillField();
        field.band(2);
        field.line(from[0], from[1], from[2], from[3]);
        field.line(to[0], to[1], to[2], to[3]);
        field.part(0, 3, 120, false);
        field.part(1, 10, 120, false);
        return field;
    }

    private static int[] row(int... numbers) {
        return numbers;
    }

    private static void phase() {
        DrillField field = twoDots(row(0, 5, 30, 39), row(0, 0, 0, 0));
        // 6 and 50 steps of sound away: 1 and 8 thousandths
        CHECK.due("a phase", field.phase(0, 0, 0, -1), 7);
        CHECK.due("the same at the end of the part", field.phase(0, 3, 0, -1), 7);
        CHECK.due("all at one place", field.phase(1, 10, 0, -1), 0);
        CHECK.due("on the way", field.phase(1, 5, 0, -1), (25 / 6) - (3 / 6));
        DrillField wide = twoDots(row(0, 840, 1600, 0), row(0, 0, 0, 0));
        // roots of 1840 and 1840, and 1600 and 1000 squared: 2438 and 1000 by 6
        CHECK.due("the widest", wide.phase(0, 0, 1600, -1000), 2438 / 6 - 1000 / 6);
        DrillField edge = twoDots(row(0, 5, 0, 4), row(0, 10, 0, 11));
        CHECK.due("the root 5 and the root 6", edge.phase(0, 0, 0, -1), 1);
        CHECK.due("the root 11 and the root 12", edge.phase(1, 10, 0, -1), 1);
        CHECK.due("rounded down both", edge.phase(0, 0, 3, -1), 1 - 0);
        CHECK.due("rounded down both", edge.phase(0, 0, 4, -1), 1 - 1);
    }

    private static void phaseOfThoseWhoMarch() {
        DrillField field = twoDots(row(0, 5, 30, 39), row(0, 0, 0, 0));
        field.ill(0, true);
        CHECK.due("one marches", field.phase(0, 0, 0, -1), 0);
        field.ill(1, true);
        CHECK.due("nobody marches", field.phase(0, 0, 0, -1), 0);
        field.alternate(0, 0, false);
        field.alternate(1, 1, false);
        CHECK.due("the alternates march", field.phase(0, 0, 0, -1), 7);
    }

    private static void phaseRange() {
        DrillField field = twoDots(row(0, 5, 30, 39), row(0, 0, 0, 0));
        CHECK.index("the part 2", () -> field.phase(2, 0, 0, -1));
        CHECK.index("the part -1 and all else wrong", () -> field.phase(-1, 99, -1, 0));
        CHECK.argument("the count -1", () -> field.phase(1, -1, 0, -1));
        CHECK.argument("the count 11", () -> field.phase(1, 11, 0, -1));
        CHECK.argument("x -1", () -> field.phase(1, 0, -1, -1));
        CHECK.argument("x 1601", () -> field.phase(1, 0, 1601, -1));
        CHECK.argument("y 0", () -> field.phase(1, 0, 0, 0));
        CHECK.argument("y -1001", () -> field.phase(1, 0, 0, -1001));
        CHECK.argument("y MIN", () -> field.phase(1, 0, 0, Integer.MIN_VALUE));
        CHECK.due("the far corner", field.phase(0, 0, 1600, -1000), phaseByHand(1600, -1000));
    }

    private static int phaseByHand(int x, int y) {
        int one = (int) Math.sqrt((double) x * x + (5 - y) * (5 - y)) / 6;
        int other = (int) Math.sqrt((double) (x - 30) * (x - 30) + (39 - y) * (39 - y)) / 6;
        return Math.abs(one - other);
    }

    private static void caught() {
        DrillField field = twoDots(row(100, 100, 400, 400), row(150, 100, 400, 350));
        CHECK.holds("ten off", field.caught(1, 0, 0, 2, 0));
        CHECK.holds("fifteen off", !field.caught(1, 0, 0, 3, 0));
        CHECK.holds("the wind helps", field.caught(1, 0, 0, 3, 5));
        CHECK.holds("the wind helps on to ten", field.caught(1, 0, 0, 5, 7));
        CHECK.holds("ten off on the other side", field.caught(1, 0, 0, 2, 10));
        CHECK.holds("eleven off on the other side", !field.caught(1, 0, 0, 1, 16));
        CHECK.holds("the wind hinders", !field.caught(1, 0, 0, 2, -1));
        CHECK.holds("ten off in y", field.caught(1, 0, 1, 2, 0));
        CHECK.holds("fifteen off in y", !field.caught(1, 0, 1, 3, 0));
        CHECK.holds("both off by ten", field.caught(1, 0, 1, 2, 5));
        CHECK.holds("the wind goes along x", !field.caught(1, 0, 1, 3, 5));
        CHECK.holds("on the spot", field.caught(0, 0, 0, 9, 0));
        CHECK.holds("the wind on the spot", field.caught(0, 0, 0, 1, 10) && !field.caught(0, 0, 0, 1, 11));
        CHECK.holds("the other wind", field.caught(0, 0, 0, 1, -10) && !field.caught(0, 0, 0, 1, -11));
    }

    private static void caughtAtTheLastCount() {
        DrillField field = twoDots(row(100, 100, 400, 400), row(150, 100, 400, 350));
        CHECK.holds("the part is over by then", field.caught(1, 8, 0, 9, 0));
        CHECK.holds("the wind has its whole height", !field.caught(1, 10, 0, 9, 2));
        CHECK.holds("the wind has its whole height", field.caught(1, 10, 0, 9, 1));
        CHECK.holds("from the last count but two", !field.caught(1, 7, 0, 9, 0));
    }

    private static void caughtRange() {
        DrillField field = twoDots(row(100, 100, 400, 400), row(150, 100, 400, 350));
        field.ill(1, true);
        CHECK.state("who is ill", () -> field.caught(1, 0, 1, 1, 0));
        CHECK.argument("who is ill, with a wrong height", () -> field.caught(1, 0, 1, 0, 0));
        CHECK.index("the part 2", () -> field.caught(2, 0, 0, 1, 0));
        CHECK.index("the part -1", () -> field.caught(-1, -1, 1, 0, 0));
        CHECK.index("the dot 2 at a wrong count", () -> field.caught(1, 11, 2, 1, 0));
        CHECK.index("the dot -1", () -> field.caught(1, 0, -1, 1, 0));
        CHECK.argument("the count 11", () -> field.caught(1, 11, 0, 1, 0));
        CHECK.argument("the count -1", () -> field.caught(1, -1, 0, 1, 0));
        CHECK.argument("the height 0", () -> field.caught(1, 0, 0, 0, 0));
        CHECK.argument("the height 10", () -> field.caught(1, 0, 0, 10, 0));
        CHECK.argument("the height MAX", () -> field.caught(1, 0, 0, Integer.MAX_VALUE, 0));
        CHECK.argument("the wind 21", () -> field.caught(1, 0, 0, 1, 21));
        CHECK.argument("the wind -21", () -> field.caught(1, 0, 0, 1, -21));
        CHECK.holds("the wind 20", !field.caught(1, 0, 0, 1, 20));
        CHECK.holds("the wind -20", !field.caught(1, 0, 0, 1, -20));
        field.alternate(0, 1, false);
        CHECK.holds("an alternate catches", field.caught(1, 0, 1, 1, 0));
    }
}
