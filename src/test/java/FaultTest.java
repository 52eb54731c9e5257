/** Promises 15 and 16: fault, agrees. */
public final class FaultTest {
    private static final Check CHECK = new Check("FaultTest");

    public static void main(String[] args) {
        range();
        steps();
        tempo();
        stepsComeFirst();
        nearness();
        firstPartIsNear();
        crossings();
        touching();
        onTheLine();
        whoMarches();
        agreesWithLongWays();
        CHECK.end();
    }

    private static void fault(String what, DrillField field, int part, int count, int kind, int dot, int other) {
        CHECK.due(what + ", the count", field.fault(part, 0), count);
        CHECK.due(what + ", the kind", field.fault(part, 1), kind);
        CHECK.due(what + ", the dot", field.fault(part, 2), dot);
        CHECK.due(what + ", the other", field.fault(part, 3), other);
        CHECK.holds(what + ", agrees", field.agrees());
    }

    private static void none(String what, DrillField field, int part) {
        fault(what, field, part, -1, -1, -1, -1);
    }

    /** Two dots who go from one line to another. */
    private static DrillField twoDots(int counts, int tempo, int[] from, int[] to) {
        DrillField field = new DrillField();
        field.band(2);
        field.line(from[0], from[1], from[2], from[3]);
        field.line(to[0], to[1], to[2], to[3]);
        field.part(0, 1, 120, false);
        field.part(1, counts, tempo, false);
        return field;
    }

    private static int[] row(int... numbers) {
        return numbers;
    }

    private static void range() {
        DrillField field = twoDots(8, 120, row(0, 0, 100, 0), row(0, 50, 100, 50));
        none("a part without a fault", field, 1);
        CHECK.index("the part 2", () -> field.fault(2, 0));
        CHECK.index("the part -1, what 9", () -> field.fault(-1, 9));
        CHECK.argument("what 4", () -> field.fault(1, 4));
        CHECK.argument("what -1", () -> field.fault(1, -1));
    }

    private static void steps() {
        none("steps of 14", twoDots(10, 120, row(0, 0, 300, 0), row(140, 0, 440, 0)), 1);
        DrillField field = twoDots(10, 120, row(0, 0, 300, 0), row(140, 10, 441, 0));
        fault("a step of 14 and 1", field, 1, 1, DrillField.STEP, 0, DrillField.NONE);
        field.legs(0, 15);
        fault("the tenth step of the other", field, 1, 10, DrillField.STEP, 1, DrillField.NONE);
        field.legs(1, 15);
        none("longer legs", field, 1);
        field.legs(0, 14);
        field.legs(1, 14);
        fault("shorter legs again", field, 1, 1, DrillField.STEP, 0, DrillField.NONE);
    }

    private static void tempo() {
        int[] from = row(0, 0, 300, 0);
        none("steps of 14 at 120", twoDots(10, 120, from, row(140, 0, 440, 0)), 1);
        fault("steps of 14 at 121", twoDots(10, 121, from, row(140, 0, 440, 0)), 1, 1, DrillField.STEP, 0, -1);
        none("steps of 13 at 121", twoDots(10, 121, from, row(130, 0, 430, 0)), 1);
        none("steps of 7 at 240", twoDots(10, 240, from, row(70, 0, 370, 0)), 1);
        fault("steps of 8 at 240", twoDots(10, 240, from, row(80, 0, 380, 0)), 1, 1, DrillField.STEP, 0, -1);
        none("steps of 14 at 60", twoDots(10, 60, from, row(140, 0, 440, 0)), 1);
        fault("steps of 15 at 60", twoDots(10, 60, from, row(150, 0, 450, 0)), 1, 1, DrillField.STEP, 0, -1);
        DrillField field = twoDots(10, 160, from, row(110, 0, 410, 0));
        field.legs(0, 15);
        field.legs(1, 15);
        none("legs of 15 at 160 are 11", field, 1);
        field.legs(1, 14);
        fault("legs of 14 at 160 are 10", field, 1, 1, DrillField.STEP, 1, -1);
    }

    /** In one count steps come ahead of nearness, an earlier count comes ahead of both. */
    private static void stepsComeFirst() {
        DrillField field = twoDots(1, 120, row(0, 0, 30, 0), row(0, 0, 9, 0));
        fault("both in one count", field, 1, 1, DrillField.STEP, 1, -1);
        field.legs(1, 21);
        fault("near alone", field, 1, 1, DrillField.NEAR, 0, 1);
        DrillField later = twoDots(3, 120, row(0, 0, 20, 0), row(43, 0, 20, 0));
        later.legs(0, 14);
        fault("near ahead of a longer step", later, 1, 1, DrillField.NEAR, 0, 1);
    }

    private static void nearness() {
        none("ten apart", twoDots(4, 120, row(0, 0, 40, 0), row(0, 0, 10, 0)), 1);
        fault("nine apart", twoDots(4, 120, row(0, 0, 40, 0), row(0, 0, 9, 0)), 1, 4, DrillField.NEAR, 0, 1);
        none("six and eight apart", twoDots(4, 120, row(0, 0, 6, 8), row(10, 10, 16, 18)), 1);
        fault("six and seven apart", twoDots(4, 120, row(0, 0, 6, 8), row(10, 10, 16, 17)), 1, 2, DrillField.NEAR, 0, 1);
        DrillField three = new DrillField();
        three.band(3);
        three.line(0, 0, 40, 0);
        three.line(0, 0, 10, 0);
        three.part(0, 1, 120, false);
        three.part(1, 3, 120, false);
        fault("the lowest pair first", three, 1, 3, DrillField.NEAR, 0, 1);
        three.ill(0, true);
        fault("then the next", three, 1, 3, DrillField.NEAR, 1, 2);
    }

    private static void firstPartIsNear() {
        DrillField field = new DrillField();
        field.line(0, 0, 27, 0);
        field.line(0, 0, 30, 0);
        field.part(0, 5, 240, true);
        fault("the first part", field, 0, 1, DrillField.NEAR, 0, 1);
        field.change(0, 1, 5, 240, true);
        none("wider", field, 0);
    }

    /** Each dot steps over the way of the other, ten tenths and more apart at both ends. */
    private static void crossings() {
        DrillField field = twoDots(1, 120, row(0, 0, 10, 0), row(10, 10, 0, 10));
        field.legs(0, 20);
        field.legs(1, 20);
        fault("ways that cross", field, 1, 1, DrillField.CROSS, 0, 1);
        DrillField late = twoDots(2, 120, row(0, 0, 90, 0), row(60, 20, 30, 20));
        late.legs(0, 40);
        late.legs(1, 40);
        fault("ways that cross late", late, 1, 2, DrillField.CROSS, 0, 1);
        late.ill(1, true);
        none("nobody to cross", late, 1);
        DrillField wide = twoDots(1, 120, row(0, 0, 40, 0), row(28, 28, 12, 28));
        wide.legs(0, 40);
        wide.legs(1, 40);
        fault("wide ways that cross", wide, 1, 1, DrillField.CROSS, 0, 1);
        DrillField far = twoDots(1, 120, row(0, 40, 79, 40), row(40, 40, 39, 39));
        far.legs(0, 40);
        far.legs(1, 40);
        fault("too near to cross", far, 1, 1, DrillField.STEP, 1, -1);
        DrillField apart = twoDots(1, 120, row(39, 100, 43, 101), row(79, 100, 5, 89));
        apart.legs(0, 40);
        apart.legs(1, 40);
        fault("ways that cross where they start, and end far apart", apart, 1, 1, DrillField.CROSS, 0, 1);
        DrillField beside = twoDots(1, 120, row(20, 0, 12, 18), row(20, 10, 26, 22));
        beside.legs(1, 20);
        none("the way of the dot 0 ends ahead of the other", beside, 1);
        DrillField besides = twoDots(1, 120, row(12, 18, 20, 0), row(26, 22, 20, 10));
        besides.legs(0, 20);
        none("the way of the dot 1 ends ahead of the other", besides, 1);
    }

    /** Who starts, or ends, on the other's way, from either side and towards either side, does not cross it. */
    private static void touching() {
        int[][] ways = {
            {20, 20, 20, 32, 20, 26, 32, 26}, {20, 20, 20, 32, 20, 26, 8, 26}, {20, 32, 20, 20, 20, 26, 33, 23},
            {20, 32, 20, 20, 20, 26, 6, 26}, {20, 20, 20, 34, 32, 24, 20, 22}, {20, 20, 20, 34, 8, 24, 20, 22},
            {20, 34, 20, 20, 32, 32, 20, 31}, {20, 34, 20, 20, 8, 32, 20, 31},
        };
        for (int[] way : ways) {
            none("touching", twoDots(1, 120, row(way[0], way[1], way[4], way[5]), row(way[2], way[3], way[6], way[7])), 1);
            none("touched", twoDots(1, 120, row(way[4], way[5], way[0], way[1]), row(way[6], way[7], way[2], way[3])), 1);
        }
        int[][] crossed = {
            {20, 20, 20, 34, 14, 28, 28, 24}, {20, 20, 20, 34, 26, 28, 12, 24},
            {20, 34, 20, 20, 14, 26, 28, 30}, {20, 34, 20, 20, 26, 26, 12, 30},
            {20, 20, 21, 34, 25, 20, 20, 21}, {20, 20, 21, 34, 20, 21, 25, 20},
        };
        for (int[] way : crossed) {
            DrillField field = twoDots(1, 60, row(way[0], way[1], way[4], way[5]), row(way[2], way[3], way[6], way[7]));
            field.legs(0, 15);
            field.legs(1, 15);
            fault("crossing", field, 1, 1, DrillField.CROSS, 0, 1);
        }
    }

    private static void onTheLine() {
        DrillField start = twoDots(1, 120, row(10, 0, 0, 10), row(10, 20, 20, 10));
        start.legs(0, 40);
        start.legs(1, 40);
        fault("through the middle", start, 1, 1, DrillField.CROSS, 0, 1);
        DrillField touch = twoDots(1, 120, row(10, 0, 10, 10), row(10, 20, 20, 10));
        touch.legs(0, 40);
        none("the other starts on the way", touch, 1);
        DrillField end = twoDots(1, 120, row(10, 0, 22, 10), row(10, 20, 10, 10));
        end.legs(0, 40);
        none("the other ends on the way", end, 1);
        DrillField changed = twoDots(1, 120, row(0, 0, 12, 0), row(12, 0, 0, 0));
        none("on one line", changed, 1);
        DrillField stays = twoDots(1, 120, row(10, 0, 10, 10), row(10, 20, 10, 10));
        stays.legs(0, 40);
        none("who stays has no line", stays, 1);
    }

    private static void whoMarches() {
        DrillField field = twoDots(10, 120, row(0, 0, 300, 0), row(150, 0, 450, 0));
        fault("the first too slow", field, 1, 1, DrillField.STEP, 0, -1);
        field.ill(0, true);
        fault("then the other", field, 1, 1, DrillField.STEP, 1, -1);
        field.ill(1, true);
        none("nobody marches", field, 1);
        field.alternate(2, 0, false);
        fault("an alternate, with the dot's legs", field, 1, 1, DrillField.STEP, 0, -1);
        field.legs(0, 15);
        none("longer legs", field, 1);
        field.alternate(2, 1, true);
        none("an ill alternate", field, 1);
    }

    private static void agreesWithLongWays() {
        DrillField field = new DrillField();
        field.band(10);
        field.line(0, 0, 1600, 840);
        field.block(100, 100, 3, 100);
        field.wedge(800, 0, 100);
        field.line(1600, 0, 0, 840);
        for (int part = 0; part < 12; part++) {
            field.part(part % 4, 64, 60 + 10 * part, part % 3 != 1);
            CHECK.holds("agrees", field.agrees());
        }
        for (int dot = 0; dot < 10; dot++) {
            field.legs(dot, 40);
            CHECK.holds("agrees with longer legs", field.agrees());
        }
    }
}
