/** Promises 19 to 21: page, publish, changed. */
public final class PagesTest {
    private static final Check CHECK = new Check("PagesTest");

    public static void main(String[] args) {
        lines();
        rows();
        pageAtTheEnd();
        range();
        publish();
        partsThatGo();
        onlyPlacesCount();
        CHECK.end();
    }

    private static DrillField ending(int x, int y) {
        DrillField field = new DrillField();
        field.band(2);
        field.line(x, y, x, y);
        field.part(0, 4, 120, false);
        return field;
    }

    private static void line(int x, int line, int off) {
        DrillField field = ending(x, 0);
        CHECK.due("the line of x " + x, field.page(0, 0, 0), line);
        CHECK.due("how far off it x " + x + " is", field.page(0, 0, 1), off);
    }

    private static void lines() {
        line(0, 0, 0);
        line(39, 0, 39);
        line(40, 1, -40);
        line(80, 1, 0);
        line(119, 1, 39);
        line(120, 2, -40);
        line(1559, 19, 39);
        line(1560, 20, -40);
        line(1600, 20, 0);
    }

    private static void row(int y, int row, int off) {
        DrillField field = ending(0, y);
        CHECK.due("the line of y " + y, field.page(0, 1, 2), row);
        CHECK.due("how far off it y " + y + " is", field.page(0, 1, 3), off);
    }

    private static void rows() {
        row(0, 0, 0);
        row(140, 0, 140);
        row(141, 1, -139);
        row(280, 1, 0);
        row(420, 1, 140);
        row(421, 2, -139);
        row(560, 2, 0);
        row(700, 2, 140);
        row(701, 3, -139);
        row(840, 3, 0);
    }

    private static void pageAtTheEnd() {
        DrillField field = new DrillField();
        field.band(2);
        field.line(100, 100, 400, 300);
        field.line(500, 560, 85, 20);
        field.part(0, 4, 120, false);
        field.part(1, 4, 120, true);
        CHECK.due("the page of a first part", field.page(0, 1, 0), 5);
        CHECK.due("LEAST leads to another place", field.page(1, 0, 0), 1);
        CHECK.due("LEAST leads to another place", field.page(1, 0, 1), 5);
        CHECK.due("LEAST leads to another place", field.page(1, 1, 2), 2);
        CHECK.due("LEAST leads to another place", field.page(1, 1, 3), 0);
        field.change(1, 1, 4, 120, false);
        CHECK.due("KEPT leads to its own", field.page(1, 0, 0), 6);
        CHECK.due("KEPT leads to its own", field.page(1, 0, 1), 20);
    }

    private static void range() {
        DrillField field = ending(0, 0);
        CHECK.index("the part 1", () -> field.page(1, 0, 0));
        CHECK.index("the part -1", () -> field.page(-1, 0, 0));
        CHECK.index("the dot 2", () -> field.page(0, 2, 0));
        CHECK.index("the dot -1 and a wrong what", () -> field.page(0, -1, 4));
        CHECK.argument("what 4", () -> field.page(0, 0, 4));
        CHECK.argument("what -1", () -> field.page(0, 0, -1));
    }

    /** Three dots; two of the three places are the same in both sets. */
    private static DrillField threeDots() {
        DrillField field = new DrillField();
        field.band(3);
        field.line(100, 100, 300, 100);
        field.line(300, 100, 100, 100);
        return field;
    }

    private static void publish() {
        DrillField field = threeDots();
        CHECK.due("nothing to publish", field.publish(), 0);
        field.part(0, 4, 120, false);
        field.part(1, 4, 120, false);
        CHECK.due("not yet published", field.changed(), 6);
        CHECK.due("asking changes nothing", field.changed(), 6);
        CHECK.due("publish", field.publish(), 6);
        CHECK.due("published", field.changed(), 0);
        CHECK.due("published again", field.publish(), 0);
        field.change(1, 0, 4, 120, false);
        CHECK.due("the one in the middle is as it was", field.changed(), 2);
        field.change(1, 1, 8, 60, false);
        CHECK.due("as published", field.changed(), 0);
        field.change(1, 1, 8, 60, true);
        CHECK.due("other dots at the places", field.changed(), 2);
        CHECK.due("publish the changes", field.publish(), 2);
        CHECK.due("published", field.changed(), 0);
    }

    private static void partsThatGo() {
        DrillField field = threeDots();
        field.part(0, 4, 120, false);
        field.part(1, 4, 120, false);
        field.publish();
        field.cut();
        CHECK.due("pages that are no more", field.changed(), 3);
        field.part(1, 9, 200, false);
        CHECK.due("they are there again", field.changed(), 0);
        field.part(1, 9, 200, false);
        CHECK.due("pages that were not", field.changed(), 3);
        field.cut();
        field.cut();
        field.cut();
        CHECK.due("all pages are no more", field.changed(), 6);
        CHECK.due("publish none", field.publish(), 6);
        CHECK.due("none are published", field.changed(), 0);
        field.part(0, 4, 120, false);
        CHECK.due("a page that was not", field.changed(), 3);
    }

    private static void onlyPlacesCount() {
        DrillField field = threeDots();
        field.part(0, 4, 120, false);
        field.part(1, 4, 120, true);
        field.publish();
        field.ill(0, true);
        field.legs(1, 40);
        CHECK.due("who is ill has a page", field.changed(), 0);
        field.change(0, 1, 4, 120, false);
        CHECK.due("later parts are looked at", field.changed(), 4);
        CHECK.argument("a wrong change", () -> field.change(0, 0, 99, 120, false));
        CHECK.due("changes no page", field.changed(), 4);
    }
}
