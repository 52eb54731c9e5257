import java.util.ArrayList;
import java.util.List;

/** All that later calls show of an object, a line for each answer. The object is spent by it. */
final class Sight {
    private static final int MOST_CALLS = 440;
    private static final long THROWN = Long.MIN_VALUE;

    private final DrillField field;
    private final List<String> lines = new ArrayList<>();

    private Sight(DrillField field) {
        this.field = field;
    }

    static List<String> of(DrillField field) {
        Sight sight = new Sight(field);
        sight.seeShow();
        sight.seePages();
        sight.seeMarching();
        sight.seeSets();
        sight.seeLegs();
        sight.seeAlternates();
        sight.seeBands();
        if (sight.lines.size() > MOST_CALLS) {
            throw new AssertionError("too many calls for one object: " + sight.lines.size());
        }
        return sight.lines;
    }

    private long ask(String call, Check.Call asked) {
        try {
            long answer = asked.answer();
            lines.add(call + " answers " + answer);
            return answer;
        } catch (RuntimeException thrown) {
            lines.add(call + " answers " + thrown.getClass().getSimpleName());
            return THROWN;
        }
    }

    private boolean isAnswered(String call, Check.Call asked) {
        return ask(call, asked) != THROWN;
    }

    private void seeShow() {
        ask("lasts()", field::lasts);
        for (int part = 0; seePart(part); part++) {
            continue;
        }
    }

    private boolean seePart(int part) {
        if (!isAnswered("walking(" + part + ")", () -> field.walking(part))) {
            return false;
        }
        int counts = countsOf(part);
        for (int dot = 0; seeDot(part, counts, dot); dot++) {
            continue;
        }
        for (int what = 0; what < 4; what++) {
            int asked = what;
            ask("fault(" + part + ", " + what + ")", () -> field.fault(part, asked));
        }
        return true;
    }

    private boolean seeDot(int part, int counts, int dot) {
        return isAnswered("place(" + part + ", " + dot + ")", () -> field.place(part, dot))
                && isAnswered("at(" + part + ", " + counts + ", " + dot + ")", () -> field.at(part, counts, dot));
    }

    /** The counts of a part are the greatest count that is not refused. */
    private int countsOf(int part) {
        int least = 1;
        int most = 64;
        while (least < most) {
            int tried = (least + most + 1) / 2;
            if (isAnswered("at(" + part + ", " + tried + ", 0)", () -> field.at(part, tried, 0))) {
                least = tried;
            } else {
                most = tried - 1;
            }
        }
        return least;
    }

    /** As parts are cut, pages and times go with them, one part after the other. */
    private void seePages() {
        ask("judge(0, 0, 1000)", () -> field.judge(0, 0, 1000));
        ask("judge(0, 1, 1000)", () -> field.judge(0, 1, 1000));
        ask("changed()", field::changed);
        while (isAnswered("cut()", field::cut)) {
            ask("lasts()", field::lasts);
            ask("changed()", field::changed);
            ask("judge(0, 0, 1000)", () -> field.judge(0, 0, 1000));
        }
        ask("publish()", field::publish);
        ask("changed()", field::changed);
    }

    private void seeMarching() {
        ask("line(0, 0, 900, 800)", () -> field.line(0, 0, 900, 800));
        ask("part(0, 1, 60, false)", () -> field.part(0, 1, 60, false));
        for (int dot = 0; dot < 10; dot++) {
            int asked = dot;
            ask("caught(0, 0, " + dot + ", 1, 0)", () -> field.caught(0, 0, asked, 1, 0) ? 1 : 0);
        }
    }

    private void seeSets() {
        for (int set = 0; seeSet(set); set++) {
            continue;
        }
    }

    private boolean seeSet(int set) {
        if (ask("change(0, " + set + ", 1, 60, false)", () -> change(set)) == THROWN) {
            return false;
        }
        for (int dot = 0; seeDot(0, 1, dot) && dot < 10; dot++) {
            continue;
        }
        return true;
    }

    private long change(int set) {
        field.change(0, set, 1, 60, false);
        return 0;
    }

    private void seeLegs() {
        for (int dot = 0; dot < 10; dot++) {
            int asked = dot;
            ask("legs(" + dot + ", 14)", () -> field.legs(asked, 14));
        }
    }

    /** With all ill those march whose place a well alternate knows; they end as the alternates, one by one, forget. */
    private void seeAlternates() {
        for (int alternate = 0; alternate <= 3; alternate++) {
            for (int dot = 0; dot < 10; dot++) {
                int asked = dot;
                ask("ill(" + dot + ", true)", () -> field.ill(asked, true) ? 1 : 0);
            }
            if (alternate < 3) {
                field.alternate(alternate, DrillField.NONE, false);
                lines.add("alternate(" + alternate + ", NONE, false) is told");
            }
        }
    }

    private void seeBands() {
        for (int rank = 0; rank < 6; rank++) {
            int asked = rank;
            ask("ranked(" + rank + ")", () -> field.ranked(asked));
        }
        for (int band = 0; band < 6; band++) {
            int asked = band;
            ask("penalty(" + band + ", 0)", () -> field.penalty(asked, 0));
            for (int caption = 3; caption >= 0; caption--) {
                int told = caption;
                ask("judge(" + band + ", " + caption + ", 0)", () -> field.judge(asked, told, 0));
            }
        }
    }
}
