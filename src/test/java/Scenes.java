/** What several tests tell their objects first. */
final class Scenes {
    private Scenes() {
    }

    static void nothing(DrillField field) {
        // a new object
    }

    static int[] row(int... numbers) {
        return numbers;
    }

    static DrillField withDots(int dots) {
        DrillField field = new DrillField();
        field.band(dots);
        return field;
    }

    /** All dots of a band stand on lines; the part 0 has the first one, each next part, of one count, the next one. */
    static DrillField lines(int dots, int[]... lines) {
        DrillField field = withDots(dots);
        for (int[] line : lines) {
            int set = field.line(line[0], line[1], line[2], line[3]);
            field.part(set, 1, 120, false);
        }
        return field;
    }

    /** Two dots who go in the part 1 from one pair of places to another. */
    static DrillField twoDots(int counts, int tempo, int[] from, int[] to) {
        DrillField field = lines(2, from, to);
        field.change(1, 1, counts, tempo, false);
        return field;
    }

    static void longestLegs(DrillField field, int dots) {
        for (int dot = 0; dot < dots; dot++) {
            field.legs(dot, 40);
        }
    }

    /** Of everything something, so that a refused call could break much: dots 0 to 4, sets 0 to 3, parts 0 to 3. */
    static void rich(DrillField field) {
        richBand(field);
        field.line(100, 100, 180, 100);
        field.block(110, 120, 2, 20);
        field.wedge(140, 90, 18);
        field.line(180, 140, 100, 100);
        field.part(0, 4, 100, false);
        field.part(1, 6, 120, true);
        field.part(2, 8, 150, false);
        field.part(3, 5, 90, true);
        field.publish();
        field.change(2, 3, 7, 130, true);
        field.clock(150, 160);
        richContest(field);
    }

    /** Dots of many kinds, and no set. */
    static void richBand(DrillField field) {
        field.band(5);
        field.legs(0, 20);
        field.legs(4, 9);
        field.ill(1, true);
        field.ill(2, true);
        field.alternate(0, 1, false);
        field.alternate(1, 2, true);
        field.alternate(2, 3, false);
    }

    private static void richContest(DrillField field) {
        field.judge(0, 0, 700);
        field.judge(0, 2, 900);
        field.judge(1, 1, 650);
        field.judge(2, 3, 1000);
        field.judge(5, 0, 333);
        field.penalty(0, 12);
        field.penalty(2, 100);
    }

    /** Two dots and all 12 sets, no part. */
    static void allSets(DrillField field) {
        field.band(2);
        for (int set = 0; set < 12; set++) {
            field.line(100 + 10 * set, 5 * set, 300, 100 + set);
        }
    }

    /** Two dots, two sets and all 12 parts. */
    static void allParts(DrillField field) {
        field.band(2);
        field.line(100, 100, 200, 100);
        field.line(200, 110, 100, 110);
        for (int part = 0; part < 12; part++) {
            field.part(part % 2, 2 + part, 100 + part, part % 3 > 0);
        }
        field.publish();
    }

    /** That a dot is where it is due, in tenths. */
    static void stands(Check check, String what, DrillField field, int part, int count, int dot, int x, int y) {
        check.due(what + ": at(" + part + ", " + count + ", " + dot + ")", field.at(part, count, dot), 2000 * x + y);
    }

    /** The places of a set are those of a first part that has it; the object has no other part. */
    static void places(Check check, String what, DrillField field, int set, int... xy) {
        field.part(set, 1, 60, false);
        for (int dot = 0; dot < xy.length / 2; dot++) {
            stands(check, what, field, 0, 0, dot, xy[2 * dot], xy[2 * dot + 1]);
        }
        check.index(what + ": no place more", () -> field.place(0, xy.length / 2));
        field.cut();
    }

    static void fault(Check check, String what, DrillField field, int part, int count, int kind, int dot, int other) {
        check.due(what + ", the count", field.fault(part, 0), count);
        check.due(what + ", the kind", field.fault(part, 1), kind);
        check.due(what + ", the dot", field.fault(part, 2), dot);
        check.due(what + ", the other dot", field.fault(part, 3), other);
        check.holds(what + ", agrees", field.agrees());
    }

    static void noFault(Check check, String what, DrillField field, int part) {
        fault(check, what, field, part, DrillField.NONE, DrillField.NONE, DrillField.NONE, DrillField.NONE);
    }
}
