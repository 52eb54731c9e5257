import java.util.function.LongSupplier;

/** Many runs of calls by a row of numbers that is always the same: each answer is compared with PlainField's. */
public final class RandomRunsTest {
    private static final Check CHECK = new Check("RandomRunsTest");
    private static final int RUNS = 440, MOST_CALLS = 512;
    private static final int[] WILD = {
        Integer.MIN_VALUE, Integer.MIN_VALUE + 1, -70000, -1001, -1000, -21, -2, -1, 0, 1, 2, 3, 6, 9, 10, 11, 12, 13,
        20, 21, 40, 41, 60, 64, 65, 240, 241, 400, 401, 840, 841, 1000, 1001, 1600, 1601, 9999, 10000, 70000,
        Integer.MAX_VALUE - 1, Integer.MAX_VALUE,
    };
    private static final int[] FAULTS = new int[4];

    private long seed;
    private DrillField field;
    private PlainField plain;
    private int dots;
    private int sets;
    private int parts;
    private int isWildAmong;
    private boolean isCrowd;
    private int calls;

    public static void main(String[] args) {
        for (int run = 0; run < RUNS; run++) {
            new RandomRunsTest().run(run);
        }
        for (int kind = 0; kind < 4; kind++) {
            CHECK.holds("enough faults of the kind " + kind + ": " + FAULTS[kind], FAULTS[kind] >= 60);
        }
        CHECK.end();
    }

    private void run(int run) {
        seed = 977L * run + 13;
        field = new DrillField();
        plain = new PlainField();
        dots = 4;
        sets = 0;
        parts = 0;
        isWildAmong = run % 3 == 0 ? 6 : 60;
        isCrowd = run % 5 < 2;
        if (run % 4 != 0) {
            int told = 2 + pick(isCrowd ? 3 : 9);
            calls++;
            field.band(told);
            plain.band(told);
            dots = told;
        }
        for (int dot = 0; isCrowd && dot < dots; dot++) {
            calls++;
            field.legs(dot, 40);
            plain.legs(dot, 40);
        }
        while (calls < MOST_CALLS) {
            call(pick(30));
        }
    }

    /** A row of numbers of its own, so that the runs are the same in any Java. */
    private int pick(int below) {
        seed = (seed * 6364136223846793005L + 1442695040888963407L);
        return (int) Long.remainderUnsigned(seed >>> 33, below);
    }

    private int number(int least, int most) {
        return pick(isWildAmong) == 0 ? WILD[pick(WILD.length)] : least + pick(most - least + 1);
    }

    private boolean either() {
        return pick(2) == 0;
    }

    private int some(int howMany) {
        return number(0, Math.max(howMany - 1, 0));
    }

    /** Counts of a part are up to 64, but of small ones more is in their range. */
    private int counts() {
        return isCrowd ? number(1, 3) : either() ? number(1, 8) : number(1, 64);
    }

    private int tempo() {
        return isCrowd || either() ? number(60, 120) : number(121, 240);
    }

    private void call(int which) {
        switch (which) {
            case 0, 1 -> legs();
            case 2 -> ill();
            case 3 -> alternate();
            case 4, 5, 6 -> set();
            case 7, 8, 9, 10, 11 -> part();
            case 12 -> change();
            case 13 -> cut();
            case 14 -> place();
            case 15 -> at();
            case 16, 17, 18 -> fault();
            case 19 -> same("agrees()", () -> field.agrees() ? 1 : 0, () -> 1);
            case 20, 21 -> phase();
            case 22, 23 -> caught();
            case 24 -> page();
            case 25 -> published();
            case 26 -> clock();
            case 27 -> judge();
            case 28 -> ranked();
            default -> rehearse();
        }
    }

    private static long kindOf(Class<?> thrown) {
        return thrown == IndexOutOfBoundsException.class ? Long.MIN_VALUE + 1
                : thrown == IllegalArgumentException.class ? Long.MIN_VALUE + 2
                : thrown == IllegalStateException.class ? Long.MIN_VALUE + 3 : Long.MIN_VALUE + 4;
    }

    private static long answer(LongSupplier call) {
        try {
            return call.getAsLong();
        } catch (RuntimeException thrown) {
            return kindOf(thrown.getClass());
        }
    }

    /** An object has no more calls than the document tells: what it would answer then is free. */
    private long same(String what, LongSupplier got, LongSupplier want) {
        if (calls == MOST_CALLS) {
            return Long.MIN_VALUE;
        }
        calls++;
        long answer = answer(got);
        CHECK.due(what, answer, answer(want));
        return answer;
    }

    private long nothing(Runnable call) {
        call.run();
        return 0;
    }

    private void legs() {
        int dot = some(dots);
        int tenths = isCrowd || either() ? 40 : number(5, 40);
        same("legs(" + dot + ", " + tenths + ")", () -> field.legs(dot, tenths), () -> plain.legs(dot, tenths));
    }

    private void ill() {
        int dot = some(dots);
        boolean is = pick(3) == 0;
        same("ill(" + dot + ", " + is + ")", () -> field.ill(dot, is) ? 1 : 0, () -> plain.ill(dot, is) ? 1 : 0);
    }

    private void alternate() {
        int alternate = some(3);
        int dot = number(-1, dots - 1);
        boolean is = pick(3) == 0;
        same("alternate(" + alternate + ", " + dot + ", " + is + ")",
                () -> nothing(() -> field.alternate(alternate, dot, is)),
                () -> nothing(() -> plain.alternate(alternate, dot, is)));
        int told = number(2, 10);
        long got = same("band(" + told + ")", () -> nothing(() -> field.band(told)), () -> nothing(() -> plain.band(told)));
        if (got == 0) {
            dots = told;
        }
    }

    /** Sets are mostly near one another, so that there are parts without long steps. */
    private void set() {
        boolean isNear = pick(isCrowd ? 12 : 4) > 0;
        int width = isCrowd ? 40 : 100;
        int x = isNear ? number(100, 100 + width) : number(0, 1600);
        int y = isNear ? number(100, 100 + width) : number(0, 840);
        int toX = isNear ? number(100, 100 + width) : number(0, 1600);
        int toY = isNear ? number(100, 100 + width) : number(0, 840);
        int columns = number(1, 10);
        int gap = isNear ? number(8, 24) : number(1, 400);
        long got;
        switch (pick(3)) {
            case 0 -> got = same("line(" + x + ", " + y + ", " + toX + ", " + toY + ")",
                    () -> field.line(x, y, toX, toY), () -> plain.line(x, y, toX, toY));
            case 1 -> got = same("block(" + x + ", " + y + ", " + columns + ", " + gap + ")",
                    () -> field.block(x, y, columns, gap), () -> plain.block(x, y, columns, gap));
            default -> got = same("wedge(" + x + ", " + y + ", " + gap + ")",
                    () -> field.wedge(x, y, gap), () -> plain.wedge(x, y, gap));
        }
        if (got >= 0) {
            sets++;
        }
    }

    private void part() {
        int set = some(sets);
        int counts = counts();
        int tempo = tempo();
        boolean isLeast = pick(isCrowd ? 6 : 2) == 0;
        long got = same("part(" + set + ", " + counts + ", " + tempo + ", " + isLeast + ")",
                () -> field.part(set, counts, tempo, isLeast), () -> plain.part(set, counts, tempo, isLeast));
        if (got >= 0) {
            parts++;
        }
    }

    private void change() {
        int part = some(parts);
        int set = some(sets);
        int counts = counts();
        int tempo = tempo();
        boolean isLeast = pick(isCrowd ? 6 : 2) == 0;
        same("change(" + part + ", " + set + ", " + counts + ", " + tempo + ", " + isLeast + ")",
                () -> nothing(() -> field.change(part, set, counts, tempo, isLeast)),
                () -> nothing(() -> plain.change(part, set, counts, tempo, isLeast)));
    }

    private void cut() {
        long got = same("cut()", field::cut, plain::cut);
        if (got >= 0) {
            parts--;
        }
    }

    private void place() {
        int part = some(parts);
        int dot = some(dots);
        same("place(" + part + ", " + dot + ")", () -> field.place(part, dot), () -> plain.place(part, dot));
        same("walking(" + part + ")", () -> field.walking(part), () -> plain.walking(part));
    }

    private void at() {
        int part = some(parts);
        int count = counts();
        int dot = some(dots);
        same("at(" + part + ", " + count + ", " + dot + ")", () -> field.at(part, count, dot), () -> plain.at(part, count, dot));
    }

    private void fault() {
        int part = some(parts);
        for (int what = 0; what < 4; what++) {
            int asked = what;
            long got = same("fault(" + part + ", " + what + ")", () -> field.fault(part, asked), () -> plain.fault(part, asked));
            if (what == 1 && got >= -1) {
                FAULTS[(int) got + 1]++;
            }
        }
        int wrong = number(0, 3);
        same("fault(" + part + ", " + wrong + ")", () -> field.fault(part, wrong), () -> plain.fault(part, wrong));
    }

    private void phase() {
        int part = some(parts);
        int count = counts();
        int x = number(0, 1600);
        int y = number(-1000, -1);
        same("phase(" + part + ", " + count + ", " + x + ", " + y + ")",
                () -> field.phase(part, count, x, y), () -> plain.phase(part, count, x, y));
    }

    private void caught() {
        int part = some(parts);
        int count = counts();
        int dot = some(dots);
        int height = number(1, 9);
        int wind = either() ? number(-3, 3) : number(-20, 20);
        same("caught(" + part + ", " + count + ", " + dot + ", " + height + ", " + wind + ")",
                () -> field.caught(part, count, dot, height, wind) ? 1 : 0,
                () -> plain.caught(part, count, dot, height, wind) ? 1 : 0);
    }

    private void page() {
        int part = some(parts);
        int dot = some(dots);
        int what = number(0, 3);
        same("page(" + part + ", " + dot + ", " + what + ")", () -> field.page(part, dot, what), () -> plain.page(part, dot, what));
    }

    private void published() {
        same("changed()", field::changed, plain::changed);
        if (either()) {
            same("publish()", field::publish, plain::publish);
        }
    }

    private void clock() {
        int lasts = (int) same("lasts()", field::lasts, plain::lasts);
        int least = number(0, lasts + 100);
        int most = number(Math.max(0, lasts - 100), lasts + 200);
        same("clock(" + least + ", " + most + ")",
                () -> nothing(() -> field.clock(least, most)), () -> nothing(() -> plain.clock(least, most)));
    }

    /** Captions of few kinds, so that bands often have as many points. */
    private void judge() {
        int band = some(6);
        int caption = some(4);
        int tenths = either() ? 300 * pick(3) : number(0, 1000);
        same("judge(" + band + ", " + caption + ", " + tenths + ")",
                () -> field.judge(band, caption, tenths), () -> plain.judge(band, caption, tenths));
        int lost = either() ? 0 : number(0, 30);
        same("penalty(" + band + ", " + lost + ")", () -> field.penalty(band, lost), () -> plain.penalty(band, lost));
    }

    private void ranked() {
        for (int rank = 0; rank < 6; rank++) {
            int asked = number(rank, rank);
            same("ranked(" + asked + ")", () -> field.ranked(asked), () -> plain.ranked(asked));
        }
    }

    private void rehearse() {
        int minutes = either() ? number(1, 200) : number(1, 9999);
        int heat = number(20, 40);
        same("rehearse(" + minutes + ", " + heat + ")", () -> field.rehearse(minutes, heat), () -> plain.rehearse(minutes, heat));
    }
}
