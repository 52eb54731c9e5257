/** Promises 6 to 8: line, block, wedge. */
public final class SetsTest {
    private static final Check CHECK = new Check("SetsTest");

    public static void main(String[] args) {
        linePlaces();
        lineRange();
        blockPlaces();
        blockRange();
        wedgePlaces();
        wedgeRange();
        twelveSets();
        CHECK.end();
    }

    private static DrillField withDots(int dots) {
        DrillField field = new DrillField();
        field.band(dots);
        return field;
    }

    /** The places of a set are those of a first part that has it. */
    private static void places(String what, DrillField field, int set, int... xy) {
        int part = field.part(set, 1, 60, false);
        if (part > 0) {
            field.cut();
            field.change(0, set, 1, 60, false);
        }
        for (int dot = 0; dot < xy.length / 2; dot++) {
            CHECK.due(what + ", the place " + dot, field.at(0, 0, dot), 2000 * xy[2 * dot] + xy[2 * dot + 1]);
        }
    }

    private static void linePlaces() {
        DrillField field = withDots(4);
        places("a line", field, field.line(0, 10, 300, 40), 0, 10, 100, 20, 200, 30, 300, 40);
        places("a line that rounds", field, field.line(0, 0, 10, 5), 0, 0, 3, 1, 6, 3, 10, 5);
        places("a line that rounds below", field, field.line(10, 5, 0, 0), 10, 5, 6, 3, 3, 1, 0, 0);
        places("a line of a place", field, field.line(7, 8, 7, 8), 7, 8, 7, 8, 7, 8, 7, 8);
        places("the longest line", field, field.line(1600, 840, 0, 0), 1600, 840, 1066, 560, 533, 280, 0, 0);
        DrillField two = withDots(2);
        places("a line of two", two, two.line(5, 6, 1600, 0), 5, 6, 1600, 0);
        DrillField ten = withDots(10);
        places("a line of ten", ten, ten.line(105, 840, 5, 800), 105, 840, 93, 835, 82, 831, 71, 826, 60, 822,
                49, 817, 38, 813, 27, 808, 16, 804, 5, 800);
    }

    private static void lineRange() {
        DrillField field = withDots(4);
        CHECK.argument("x -1", () -> field.line(-1, 0, 0, 0));
        CHECK.argument("x 1601", () -> field.line(1601, 0, 0, 0));
        CHECK.argument("y -1", () -> field.line(0, -1, 0, 0));
        CHECK.argument("y 841", () -> field.line(0, 841, 0, 0));
        CHECK.argument("toX -1", () -> field.line(0, 0, -1, 0));
        CHECK.argument("toX 1601", () -> field.line(0, 0, 1601, 0));
        CHECK.argument("toY -1", () -> field.line(0, 0, 0, -1));
        CHECK.argument("toY 841", () -> field.line(0, 0, 0, 841));
        CHECK.argument("far outside", () -> field.line(Integer.MIN_VALUE, 0, Integer.MAX_VALUE, 0));
        CHECK.due("the first set after wrong ones", field.line(0, 0, 1600, 840), 0);
        CHECK.due("the next set", field.line(1600, 0, 0, 840), 1);
    }

    private static void blockPlaces() {
        DrillField field = withDots(5);
        places("a block", field, field.block(100, 200, 2, 30), 100, 200, 130, 200, 100, 230, 130, 230, 100, 260);
        places("three columns", field, field.block(100, 200, 3, 30), 100, 200, 130, 200, 160, 200, 100, 230, 130, 230);
        places("one column", field, field.block(0, 0, 1, 1), 0, 0, 0, 1, 0, 2, 0, 3, 0, 4);
        places("ten columns", field, field.block(0, 840, 10, 400), 0, 840, 400, 840, 800, 840, 1200, 840, 1600, 840);
    }

    private static void blockRange() {
        DrillField field = withDots(5);
        CHECK.argument("no columns", () -> field.block(0, 0, 0, 10));
        CHECK.argument("11 columns", () -> field.block(0, 0, 11, 10));
        CHECK.argument("MIN columns", () -> field.block(0, 0, Integer.MIN_VALUE, 10));
        CHECK.argument("no gap", () -> field.block(0, 0, 2, 0));
        CHECK.argument("a gap of 401", () -> field.block(0, 0, 2, 401));
        CHECK.argument("a gap of MAX", () -> field.block(0, 0, 2, Integer.MAX_VALUE));
        CHECK.argument("x -1", () -> field.block(-1, 0, 2, 10));
        CHECK.argument("y -1", () -> field.block(0, -1, 2, 10));
        CHECK.argument("the last x 1601", () -> field.block(1601 - 4 * 400, 0, 5, 400));
        CHECK.argument("the last y 841", () -> field.block(0, 841 - 4 * 100, 1, 100));
        CHECK.argument("x MAX", () -> field.block(Integer.MAX_VALUE, 0, 5, 400));
        CHECK.argument("y MAX", () -> field.block(0, Integer.MAX_VALUE, 1, 400));
        CHECK.argument("x MIN", () -> field.block(Integer.MIN_VALUE, 0, 5, 400));
        CHECK.due("the edge of the field", field.block(0, 840 - 4 * 100, 1, 100), 0);
        CHECK.due("the other edge", field.block(0, 0, 5, 400), 1);
    }

    private static void wedgePlaces() {
        DrillField field = withDots(5);
        places("a wedge", field, field.wedge(700, 100, 30), 700, 100, 670, 130, 730, 130, 640, 160, 760, 160);
        places("at the left edge", field, field.wedge(800, 0, 400), 800, 0, 400, 400, 1200, 400, 0, 800, 1600, 800);
        places("the least gap", field, field.wedge(2, 838, 1), 2, 838, 1, 839, 3, 839, 0, 840, 4, 840);
        DrillField two = withDots(2);
        places("a wedge of two", two, two.wedge(400, 440, 400), 400, 440, 0, 840);
    }

    private static void wedgeRange() {
        DrillField field = withDots(5);
        CHECK.argument("no gap", () -> field.wedge(700, 100, 0));
        CHECK.argument("a gap of 401", () -> field.wedge(700, 100, 401));
        CHECK.argument("a gap of MIN", () -> field.wedge(700, 100, Integer.MIN_VALUE));
        CHECK.argument("the dot 3 left of the field", () -> field.wedge(59, 0, 30));
        CHECK.argument("the dot 4 right of the field", () -> field.wedge(1541, 0, 30));
        CHECK.argument("the dot 3 behind the field", () -> field.wedge(700, 781, 30));
        CHECK.argument("y -1", () -> field.wedge(700, -1, 30));
        CHECK.argument("x 1601", () -> field.wedge(1601, 0, 1));
        CHECK.argument("x MIN", () -> field.wedge(Integer.MIN_VALUE, 0, 400));
        CHECK.argument("x MAX", () -> field.wedge(Integer.MAX_VALUE, 0, 400));
        CHECK.argument("y MAX", () -> field.wedge(700, Integer.MAX_VALUE, 400));
        CHECK.due("the left edge", field.wedge(60, 0, 30), 0);
        CHECK.due("the right edge", field.wedge(1540, 780, 30), 1);
    }

    private static void twelveSets() {
        DrillField field = withDots(4);
        for (int set = 0; set < 12; set++) {
            int got = set % 3 == 0 ? field.line(0, 0, 300, set)
                    : set % 3 == 1 ? field.block(0, 0, 2, 10 + set) : field.wedge(800, 0, 10 + set);
            CHECK.due("the number of the set", got, set);
        }
        CHECK.state("a line too many", () -> field.line(0, 0, 300, 0));
        CHECK.state("a block too many", () -> field.block(0, 0, 2, 10));
        CHECK.state("a wedge too many", () -> field.wedge(800, 0, 10));
        CHECK.argument("a wrong line too many", () -> field.line(0, 0, 1601, 0));
        CHECK.argument("a wrong block too many", () -> field.block(1600, 0, 2, 10));
        CHECK.argument("a wrong wedge too many", () -> field.wedge(0, 0, 10));
        places("the last set stands", field, 11, 800, 0, 779, 21, 821, 21, 758, 42);
        places("the first set stands", field, 0, 0, 0, 100, 0, 200, 0, 300, 0);
        CHECK.index("the set 12", () -> field.part(12, 1, 60, false));
    }
}
