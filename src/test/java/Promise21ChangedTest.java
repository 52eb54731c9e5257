/** Promise 21, changed: each sentence that names a boundary, at it and one step beyond it. */
public final class Promise21ChangedTest {
    private static final Check CHECK = new Check("Promise21ChangedTest");

    public static void main(String[] args) {
        howManyAreChanged();
        anotherOneThanWasPublished();
        wasNotPublished();
        isNoMore();
        oneTenthIsAnother();
        noMoreThanItsPlace();
        publishesNothing();
        noneAndAll();
        CHECK.end();
    }

    private static int[] row(int... numbers) {
        return numbers;
    }

    private static void howManyAreChanged() {
        CHECK.sentence("Promise 21: Returns how many pages are changed.");
        DrillField field = Scenes.lines(3, row(100, 100, 300, 100), row(300, 100, 100, 100));
        CHECK.due("none was published", field.changed(), 6);
        field.publish();
        CHECK.due("all are published", field.changed(), 0);
        field.change(1, 0, 1, 120, false);
        CHECK.due("the one in the middle stays", field.changed(), 2);
        field.change(1, 1, 1, 120, false);
        CHECK.due("as published", field.changed(), 0);
    }

    private static void anotherOneThanWasPublished() {
        CHECK.sentence("Promise 21: a page is changed if it is another one than was published");
        DrillField field = Scenes.lines(2, row(100, 100, 200, 100), row(200, 100, 100, 100));
        field.publish();
        field.change(1, 1, 1, 120, true);
        CHECK.due("the same places, other dots", field.changed(), 2);
        field.change(0, 1, 1, 120, true);
        CHECK.due("the part 1 is as it was, the part 0 is another one", field.changed(), 2);
        field.change(1, 0, 1, 120, false);
        CHECK.due("both are other ones", field.changed(), 4);
    }

    private static void wasNotPublished() {
        CHECK.sentence("Promise 21: or was not");
        DrillField field = Scenes.lines(2, row(100, 100, 200, 100));
        CHECK.due("a first part", field.changed(), 2);
        field.publish();
        field.part(0, 1, 60, false);
        CHECK.due("a part more", field.changed(), 2);
        field.part(0, 1, 60, false);
        CHECK.due("two parts more", field.changed(), 4);
        field.cut();
        CHECK.due("one of them is cut", field.changed(), 2);
        field.cut();
        CHECK.due("both are cut", field.changed(), 0);
    }

    private static void isNoMore() {
        CHECK.sentence("Promise 21: or is no more.");
        DrillField field = Scenes.lines(2, row(100, 100, 200, 100), row(200, 100, 100, 100));
        field.publish();
        field.cut();
        CHECK.due("a part less", field.changed(), 2);
        field.cut();
        CHECK.due("two parts less", field.changed(), 4);
        field.part(0, 64, 240, true);
        CHECK.due("the first one again", field.changed(), 2);
        field.part(0, 64, 240, false);
        CHECK.due("another second one", field.changed(), 2);
        field.change(1, 1, 64, 240, false);
        CHECK.due("the second one as it was", field.changed(), 0);
    }

    private static void oneTenthIsAnother() {
        CHECK.sentence("Promise 21: A page is of a part and a dot: the dot's place at the end of it, in words");
        int[][] others = {{101, 100}, {99, 100}, {100, 101}, {100, 99}, {180, 100}, {20, 100}, {100, 380}, {100, 660}};
        for (int[] other : others) {
            DrillField field = Scenes.lines(2, row(100, 100, 200, 100));
            field.publish();
            field.change(0, field.line(other[0], other[1], 200, 100), 1, 120, false);
            CHECK.due("the first dot at " + other[0] + ", " + other[1], field.changed(), 1);
            field.change(0, field.line(100, 100, 100 + other[0], other[1]), 1, 120, false);
            CHECK.due("the last dot beside", field.changed(), 1);
            field.change(0, field.line(100, 100, 200, 100), 1, 120, false);
            CHECK.due("another set with the same places", field.changed(), 0);
        }
        DrillField middle = Scenes.lines(2, row(39, 140, 1559, 700));
        middle.publish();
        middle.change(0, middle.line(40, 140, 1559, 701), 1, 120, false);
        CHECK.due("other lines, nearest to places one tenth beside", middle.changed(), 2);
    }

    private static void noMoreThanItsPlace() {
        CHECK.sentence("Promise 21: the dot's place at the end of it");
        DrillField field = Scenes.lines(2, row(100, 100, 200, 100), row(100, 300, 200, 300));
        field.publish();
        field.change(0, 0, 64, 240, true);
        field.change(1, 1, 64, 240, true);
        CHECK.due("counts, tempo and LEAST with the same places", field.changed(), 0);
        field.ill(0, true);
        field.ill(1, true);
        field.alternate(0, 1, false);
        field.legs(0, 40);
        CHECK.due("who is ill, alternates and legs", field.changed(), 0);
        field.clock(1, 2);
        field.judge(0, 0, 1000);
        CHECK.due("clock and judges", field.changed(), 0);
    }

    private static void publishesNothing() {
        CHECK.sentence("Promise 21: Returns how many pages are changed.");
        DrillField field = Scenes.lines(2, row(100, 100, 200, 100));
        for (int time = 0; time < 3; time++) {
            CHECK.due("asking does not publish", field.changed(), 2);
        }
        CHECK.due("publish", field.publish(), 2);
    }

    private static void noneAndAll() {
        CHECK.sentence("Promise 21: a page is changed if it is another one than was published, or was not, or is "
                + "no more.");
        DrillField field = new DrillField();
        CHECK.due("a new object", field.changed(), 0);
        field.band(10);
        field.line(0, 0, 900, 0);
        CHECK.due("a set alone", field.changed(), 0);
        for (int part = 0; part < 12; part++) {
            field.part(0, 64, 60, true);
            CHECK.due("pages that were not", field.changed(), 10 * part + 10);
        }
        field.publish();
        for (int part = 0; part < 12; part++) {
            field.cut();
            CHECK.due("pages that are no more", field.changed(), 10 * part + 10);
        }
    }
}
