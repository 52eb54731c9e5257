/** Promise 20, publish: each sentence that names a boundary, at it and one step beyond it. */
public final class Promise20PublishTest {
    private static final Check CHECK = new Check("Promise20PublishTest");

    public static void main(String[] args) {
        publishesAndCounts();
        keepsAllPages();
        keepsThemAsTheyAre();
        noPages();
        allPages();
        fewerPages();
        CHECK.end();
    }

    private static int[] row(int... numbers) {
        return numbers;
    }

    private static void publishesAndCounts() {
        CHECK.sentence("Promise 20: Publishes; returns how many pages were changed.");
        DrillField field = Scenes.lines(3, row(100, 100, 300, 100));
        CHECK.due("pages that were not", field.publish(), 3);
        CHECK.due("none was changed", field.publish(), 0);
        field.part(0, 4, 60, false);
        CHECK.due("those of another part", field.publish(), 3);
        int set = field.line(100, 100, 302, 100);
        field.change(1, set, 4, 60, false);
        CHECK.due("two of three were changed", field.publish(), 2);
        field.cut();
        CHECK.due("those that are no more", field.publish(), 3);
        CHECK.due("none was changed", field.publish(), 0);
    }

    private static void keepsAllPages() {
        CHECK.sentence("Promise 20: To publish is to keep all pages as they are");
        DrillField field = Scenes.lines(2, row(100, 100, 200, 100), row(300, 100, 400, 100));
        field.publish();
        CHECK.due("nothing is changed then", field.changed(), 0);
        field.change(0, 1, 1, 120, false);
        CHECK.due("the pages of the part 0 are", field.changed(), 2);
        field.change(1, 0, 1, 120, false);
        CHECK.due("the pages of both parts are", field.changed(), 4);
        field.change(0, 0, 1, 120, false);
        CHECK.due("the pages of the part 1 are", field.changed(), 2);
        field.publish();
        CHECK.due("nothing is changed then", field.changed(), 0);
        field.change(1, 1, 1, 120, false);
        CHECK.due("as was published first, and not last", field.changed(), 2);
    }

    private static void keepsThemAsTheyAre() {
        CHECK.sentence("Promise 20: as they are");
        DrillField field = Scenes.lines(2, row(100, 100, 200, 100), row(200, 100, 100, 100));
        field.publish();
        field.change(1, 1, 64, 240, true);
        CHECK.due("LEAST: they have changed places", field.publish(), 2);
        field.change(0, 1, 1, 120, true);
        CHECK.due("found anew: both parts", field.publish(), 4);
        CHECK.due("none was changed", field.publish(), 0);
        CHECK.due("as before", field.page(1, 0, 0), 3);
    }

    private static void noPages() {
        CHECK.sentence("Promise 20: returns how many pages were changed.");
        DrillField field = new DrillField();
        CHECK.due("a new object", field.publish(), 0);
        CHECK.due("a new object, again", field.publish(), 0);
        field.band(10);
        field.line(0, 0, 900, 0);
        CHECK.due("a set alone", field.publish(), 0);
        field.part(0, 4, 60, false);
        CHECK.due("ten pages", field.publish(), 10);
        field.cut();
        field.part(0, 9, 90, true);
        CHECK.due("a part like one that was cut", field.publish(), 0);
        field.cut();
        CHECK.due("no pages any more", field.publish(), 10);
        CHECK.due("no pages", field.publish(), 0);
    }

    private static void allPages() {
        CHECK.sentence("Promise 20: To publish is to keep all pages");
        DrillField field = Scenes.withDots(10);
        field.line(0, 0, 900, 0);
        field.line(1, 0, 901, 0);
        for (int part = 0; part < 12; part++) {
            field.part(0, 4, 60, false);
        }
        CHECK.due("12 parts of ten dots", field.publish(), 120);
        CHECK.due("none was changed", field.publish(), 0);
        for (int part = 0; part < 12; part++) {
            field.change(part, 1, 4, 60, false);
            CHECK.due("each by one tenth", field.changed(), 10 * part + 10);
        }
        CHECK.due("all were changed", field.publish(), 120);
        for (int part = 0; part < 12; part++) {
            field.cut();
        }
        CHECK.due("all are no more", field.publish(), 120);
        CHECK.due("nothing is left", field.publish(), 0);
    }

    private static void fewerPages() {
        CHECK.sentence("Promise 20: To publish is to keep all pages as they are");
        DrillField field = Scenes.lines(2, row(0, 0, 100, 0), row(0, 100, 100, 100), row(0, 200, 100, 200));
        field.publish();
        field.cut();
        field.cut();
        CHECK.due("two parts are no more", field.publish(), 4);
        field.part(1, 1, 60, false);
        CHECK.due("a part as it was published first, but not last", field.publish(), 2);
        field.part(2, 1, 60, false);
        CHECK.due("one more as it was published first", field.publish(), 2);
        CHECK.due("none was changed", field.publish(), 0);
    }
}
