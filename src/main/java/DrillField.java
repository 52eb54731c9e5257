/** A marching show: dots in sets, parts of a show, faults, sound, tosses, pages, clock, judges, rehearsals. */
public final class DrillField {
    public static final int NONE = -1;
    public static final int STEP = 0, NEAR = 1, CROSS = 2;

    private static final int MOST_X = 1600, MOST_Y = 840;
    private static final int LEAST_DOTS = 2, FIRST_DOTS = 4, MOST_DOTS = 10;
    private static final int LEAST_LEGS = 5, FIRST_LEGS = 14, MOST_LEGS = 40;
    private static final int MOST_ALTERNATES = 3;
    private static final int MOST_SETS = 12, MOST_COLUMNS = 10, MOST_GAP = 400;
    private static final int MOST_PARTS = 12, MOST_COUNTS = 64;
    private static final int LEAST_TEMPO = 60, FULL_LEGS_TEMPO = 120, MOST_TEMPO = 240;
    private static final int NEAREST_SQUARE = 100;
    private static final int PLACE_UNIT = 2000;
    private static final int SEAT_LEAST_Y = -1000, SEAT_MOST_Y = -1, SOUND_SPEED = 6, ROOT_TOP_BIT = 2048;
    private static final int MOST_HEIGHT = 9, MOST_WIND = 20, CATCH_REACH = 10;
    private static final int MOST_WHAT = 3;
    private static final int LINE_TENTHS = 80, ROW_TENTHS = 280;
    private static final int MOST_CLOCK = 9999, LOSS_TENTHS = 30, MINUTE_TENTHS = 600;
    private static final int BANDS = 6, CAPTIONS = 4, MOST_TENTHS = 1000, POINTS_DIVISOR = 6;
    private static final int MOST_MINUTES = 9999, MOST_HEAT = 60;
    private static final int MILD_HEAT = 28, WARM_HEAT = 32, HOT_HEAT = 36;

    private final Dots dots = new Dots();
    private final Sets sets = new Sets();
    private final Show show = new Show();
    private final Watch watch = new Watch();
    private final Recount recount = new Recount();
    private final Spots sounding = new Spots();
    private final Pages pages = new Pages();
    private final Contest contest = new Contest();

    public DrillField() {
    }

    // ---- dots

    public void band(int dots) throws IllegalArgumentException, IllegalStateException {
        needRange(dots, LEAST_DOTS, MOST_DOTS);
        if (sets.number() > 0) {
            throw new IllegalStateException("there are sets");
        }
        this.dots.begin(dots);
    }

    public int legs(int dot, int tenths) throws IndexOutOfBoundsException, IllegalArgumentException {
        needDot(dot);
        needRange(tenths, LEAST_LEGS, MOST_LEGS);
        int before = dots.legsOf(dot);
        dots.giveLegs(dot, tenths);
        return before;
    }

    public boolean ill(int dot, boolean isIll) throws IndexOutOfBoundsException {
        needDot(dot);
        dots.letBeIll(dot, isIll);
        return dots.marches(dot);
    }

    public void alternate(int alternate, int dot, boolean isIll) throws IndexOutOfBoundsException {
        needIndex(alternate, MOST_ALTERNATES);
        if (dot != NONE) {
            needDot(dot);
        }
        dots.teach(alternate, dot, isIll);
    }

    // ---- sets

    public int line(int x, int y, int toX, int toY) throws IllegalArgumentException, IllegalStateException {
        if (!isOnField(x, y) || !isOnField(toX, toY)) {
            throw new IllegalArgumentException("a place is not on the field");
        }
        sets.draftLine(x, y, toX, toY, dots.number());
        return keepDraft();
    }

    public int block(int x, int y, int columns, int gap) throws IllegalArgumentException, IllegalStateException {
        needRange(columns, 1, MOST_COLUMNS);
        needRange(gap, 1, MOST_GAP);
        sets.draftBlock(x, y, columns, gap, dots.number());
        return keepDraft();
    }

    public int wedge(int x, int y, int gap) throws IllegalArgumentException, IllegalStateException {
        needRange(gap, 1, MOST_GAP);
        sets.draftWedge(x, y, gap, dots.number());
        return keepDraft();
    }

    // ---- the show

    public int part(int set, int counts, int tempo, boolean isLeast)
            throws IndexOutOfBoundsException, IllegalArgumentException, IllegalStateException {
        needIndex(set, sets.number());
        needRange(counts, 1, MOST_COUNTS);
        needRange(tempo, LEAST_TEMPO, MOST_TEMPO);
        if (show.number() >= MOST_PARTS) {
            throw new IllegalStateException("there are 12 parts");
        }
        int part = show.grow();
        show.numbered(part).tell(set, counts, tempo, isLeast);
        show.findFrom(part, sets, dots.number());
        return part;
    }

    public void change(int part, int set, int counts, int tempo, boolean isLeast)
            throws IndexOutOfBoundsException, IllegalArgumentException {
        needPart(part);
        needIndex(set, sets.number());
        needRange(counts, 1, MOST_COUNTS);
        needRange(tempo, LEAST_TEMPO, MOST_TEMPO);
        show.numbered(part).tell(set, counts, tempo, isLeast);
        show.findFrom(part, sets, dots.number());
    }

    public int cut() throws IllegalStateException {
        if (show.number() == 0) {
            throw new IllegalStateException("there is no part");
        }
        show.shrink();
        return show.number();
    }

    public int place(int part, int dot) throws IndexOutOfBoundsException {
        needPart(part);
        needDot(dot);
        return show.numbered(part).placeOf(dot);
    }

    public long walking(int part) throws IndexOutOfBoundsException {
        needPart(part);
        return show.numbered(part).squaresOfWays(dots.number());
    }

    public int at(int part, int count, int dot) throws IndexOutOfBoundsException, IllegalArgumentException {
        needPart(part);
        needDot(dot);
        Part asked = show.numbered(part);
        needRange(count, 0, asked.counts());
        return PLACE_UNIT * asked.xOf(dot, count) + asked.yOf(dot, count);
    }

    public int fault(int part, int what) throws IndexOutOfBoundsException, IllegalArgumentException {
        needPart(part);
        needRange(what, 0, MOST_WHAT);
        return watch.look(show.numbered(part), dots).said(what);
    }

    public boolean agrees() {
        for (int part = 0; part < show.number(); part++) {
            Part looked = show.numbered(part);
            if (!watch.look(looked, dots).isSameAs(recount.look(looked, dots))) {
                return false;
            }
            if (part > 0 && looked.isLeast() && looked.isBetterWithTwoChanged(dots.number())) {
                return false;
            }
        }
        return true;
    }

    // ---- sound, tosses

    public int phase(int part, int count, int x, int y) throws IndexOutOfBoundsException, IllegalArgumentException {
        needPart(part);
        Part asked = show.numbered(part);
        needRange(count, 0, asked.counts());
        needRange(x, 0, MOST_X);
        needRange(y, SEAT_LEAST_Y, SEAT_MOST_Y);
        asked.stand(count, sounding, dots.number());
        return soundApart(x, y);
    }

    public boolean caught(int part, int count, int dot, int height, int wind)
            throws IndexOutOfBoundsException, IllegalArgumentException, IllegalStateException {
        needPart(part);
        needDot(dot);
        Part asked = show.numbered(part);
        needRange(count, 0, asked.counts());
        needRange(height, 1, MOST_HEIGHT);
        needRange(wind, -MOST_WIND, MOST_WIND);
        if (!dots.marches(dot)) {
            throw new IllegalStateException("the dot does not march");
        }
        int end = Math.min(count + height, asked.counts());
        int offX = asked.xOf(dot, count) + wind * height - asked.xOf(dot, end);
        int offY = asked.yOf(dot, count) - asked.yOf(dot, end);
        return Math.abs(offX) <= CATCH_REACH && Math.abs(offY) <= CATCH_REACH;
    }

    // ---- pages

    public int page(int part, int dot, int what) throws IndexOutOfBoundsException, IllegalArgumentException {
        needPart(part);
        needDot(dot);
        needRange(what, 0, MOST_WHAT);
        Spots ends = show.numbered(part).ends();
        switch (what) {
            case 0:
                return nearestLine(ends.x(dot));
            case 1:
                return ends.x(dot) - LINE_TENTHS * nearestLine(ends.x(dot));
            case 2:
                return nearestRow(ends.y(dot));
            default:
                return ends.y(dot) - ROW_TENTHS * nearestRow(ends.y(dot));
        }
    }

    public int publish() {
        int changes = pages.countUnlike(show, dots.number());
        pages.keep(show);
        return changes;
    }

    public int changed() {
        return pages.countUnlike(show, dots.number());
    }

    // ---- clock, judges, rehearsals

    public int lasts() {
        return show.tenthsOfSeconds();
    }

    public void clock(int least, int most) throws IllegalArgumentException {
        needRange(least, 0, MOST_CLOCK);
        needRange(most, least, MOST_CLOCK);
        contest.tellClock(least, most);
    }

    public int judge(int band, int caption, int tenths) throws IndexOutOfBoundsException, IllegalArgumentException {
        needIndex(band, BANDS);
        needIndex(caption, CAPTIONS);
        needRange(tenths, 0, MOST_TENTHS);
        contest.tellCaption(band, caption, tenths);
        return contest.points(band, show.tenthsOfSeconds());
    }

    public int penalty(int band, int tenths) throws IndexOutOfBoundsException, IllegalArgumentException {
        needIndex(band, BANDS);
        needRange(tenths, 0, MOST_TENTHS);
        contest.tellPenalty(band, tenths);
        return contest.points(band, show.tenthsOfSeconds());
    }

    public int ranked(int rank) throws IllegalArgumentException {
        needRange(rank, 0, BANDS - 1);
        return contest.bandAt(rank, show.tenthsOfSeconds());
    }

    public int rehearse(int minutes, int heat) throws IllegalArgumentException {
        needRange(minutes, 1, MOST_MINUTES);
        needRange(heat, 0, MOST_HEAT);
        if (heat < MILD_HEAT) {
            return withRests(minutes, 50, 10);
        }
        if (heat < WARM_HEAT) {
            return withRests(minutes, 30, 10);
        }
        return heat < HOT_HEAT ? withRests(minutes, 20, 20) : NONE;
    }

    // ---- what several calls need

    private static void needRange(int number, int least, int most) {
        if (!isWithin(number, least, most)) {
            throw new IllegalArgumentException("an argument is out of its range");
        }
    }

    private static void needIndex(int number, int howMany) {
        if (!isWithin(number, 0, howMany - 1)) {
            throw new IndexOutOfBoundsException("there is no such number");
        }
    }

    private void needDot(int dot) {
        needIndex(dot, dots.number());
    }

    private void needPart(int part) {
        needIndex(part, show.number());
    }

    private int keepDraft() {
        if (!sets.isDraftOnField(dots.number())) {
            throw new IllegalArgumentException("a place is not on the field");
        }
        if (sets.number() >= MOST_SETS) {
            throw new IllegalStateException("there are 12 sets");
        }
        return sets.keepDraft();
    }

    private int soundApart(int seatX, int seatY) {
        int least = NONE;
        int most = NONE;
        for (int dot = 0; dot < dots.number(); dot++) {
            if (dots.marches(dot)) {
                int square = square(sounding.x(dot) - seatX, sounding.y(dot) - seatY);
                int late = downBy(rootDown(square), SOUND_SPEED);
                least = least == NONE ? late : Math.min(least, late);
                most = Math.max(most, late);
            }
        }
        return most - least;
    }

    private static int nearestLine(int x) {
        return downBy(x + LINE_TENTHS / 2, LINE_TENTHS);
    }

    /** Of two that are as near it is the lower one, so half of the way still belongs to that. */
    private static int nearestRow(int y) {
        return downBy(y + ROW_TENTHS / 2 - 1, ROW_TENTHS);
    }

    /** Behind the last work there is no rest, so a rest needs a minute of work that follows it. */
    private static int withRests(int minutes, int work, int rest) {
        return minutes + rest * downBy(minutes - 1, work);
    }

    private static boolean isWithin(int number, int least, int most) {
        return number >= least && number <= most;
    }

    /** Whether a row that is made for the dots, or for their places, has such an index. */
    private static boolean isInRow(int index) {
        return index >= 0 && index < MOST_DOTS;
    }

    private static boolean isOnField(int x, int y) {
        return isWithin(x, 0, MOST_X) && isWithin(y, 0, MOST_Y);
    }

    private static int downBy(int number, int by) {
        return by > 0 ? Math.floorDiv(number, by) : 0;
    }

    private static int restBy(int number, int by) {
        return by > 0 ? Math.floorMod(number, by) : 0;
    }

    private static int square(int x, int y) {
        return x * x + y * y;
    }

    private static int rootDown(int square) {
        int root = 0;
        for (int bit = ROOT_TOP_BIT; bit > 0; bit >>= 1) {
            int tried = root + bit;
            if (tried * tried <= square) {
                root = tried;
            }
        }
        return root;
    }

    /** Who marches in the band, and with which legs. */
    private static final class Dots {
        private final int[] legs = new int[MOST_DOTS];
        private final boolean[] isIll = new boolean[MOST_DOTS];
        private final int[] known = new int[MOST_ALTERNATES];
        private final boolean[] isAlternateIll = new boolean[MOST_ALTERNATES];
        private int number;

        Dots() {
            begin(FIRST_DOTS);
        }

        void begin(int howMany) {
            number = Math.min(howMany, MOST_DOTS);
            for (int dot = 0; dot < MOST_DOTS; dot++) {
                legs[dot] = FIRST_LEGS;
                isIll[dot] = false;
            }
            for (int alternate = 0; alternate < MOST_ALTERNATES; alternate++) {
                known[alternate] = NONE;
                isAlternateIll[alternate] = false;
            }
        }

        int number() {
            return number;
        }

        int legsOf(int dot) {
            return isInRow(dot) ? legs[dot] : FIRST_LEGS;
        }

        void giveLegs(int dot, int tenths) {
            if (isInRow(dot)) {
                legs[dot] = tenths;
            }
        }

        void letBeIll(int dot, boolean ill) {
            if (isInRow(dot)) {
                isIll[dot] = ill;
            }
        }

        void teach(int alternate, int dot, boolean ill) {
            if (isWithin(alternate, 0, MOST_ALTERNATES - 1)) {
                known[alternate] = dot;
                isAlternateIll[alternate] = ill;
            }
        }

        boolean marches(int dot) {
            if (!isInRow(dot)) {
                return false;
            }
            if (!isIll[dot]) {
                return true;
            }
            for (int alternate = 0; alternate < MOST_ALTERNATES; alternate++) {
                if (known[alternate] == dot && !isAlternateIll[alternate]) {
                    return true;
                }
            }
            return false;
        }

        /** The square of the longest step that a dot can make at a tempo. */
        int stepSquare(int dot, int tempo) {
            int most = legsOf(dot);
            if (tempo > FULL_LEGS_TEMPO) {
                most = downBy(most * FULL_LEGS_TEMPO, tempo);
            }
            return most * most;
        }
    }

    /** A spot on the field for each dot. */
    private static final class Spots {
        private final int[] xs = new int[MOST_DOTS];
        private final int[] ys = new int[MOST_DOTS];

        int x(int dot) {
            return isInRow(dot) ? xs[dot] : 0;
        }

        int y(int dot) {
            return isInRow(dot) ? ys[dot] : 0;
        }

        void put(int dot, int x, int y) {
            if (isInRow(dot)) {
                xs[dot] = x;
                ys[dot] = y;
            }
        }

        void copy(Spots other) {
            for (int dot = 0; dot < MOST_DOTS; dot++) {
                put(dot, other.x(dot), other.y(dot));
            }
        }

        int squareTo(int dot, Spots other, int otherDot) {
            if (!isInRow(dot) || !isInRow(otherDot)) {
                return 0;
            }
            return square(xs[dot] - other.xs[otherDot], ys[dot] - other.ys[otherDot]);
        }

        boolean isCrossing(Spots goal, int one, int other) {
            return isParted(goal, one, other) && isParted(goal, other, one);
        }

        /** Whether the ends of the other's way lie on unlike sides of the line of the one's, none on it. */
        private boolean isParted(Spots goal, int one, int other) {
            if (!isInRow(one) || !isInRow(other)) {
                return false;
            }
            int fromX = xs[one];
            int fromY = ys[one];
            int wayX = goal.xs[one] - fromX;
            int wayY = goal.ys[one] - fromY;
            int first = wayX * (ys[other] - fromY) - wayY * (xs[other] - fromX);
            int last = wayX * (goal.ys[other] - fromY) - wayY * (goal.xs[other] - fromX);
            return first < 0 && last > 0 || first > 0 && last < 0;
        }
    }

    /** The sets, and a draft of one that may come to be the next. */
    private static final class Sets {
        private final Spots[] all = new Spots[MOST_SETS];
        private final Spots draft = new Spots();
        private int number;

        Sets() {
            for (int set = 0; set < MOST_SETS; set++) {
                all[set] = new Spots();
            }
        }

        int number() {
            return number;
        }

        Spots numbered(int set) {
            return isWithin(set, 0, MOST_SETS - 1) && all[set] != null ? all[set] : draft;
        }

        void draftLine(int x, int y, int toX, int toY, int howMany) {
            for (int i = 0; i < howMany; i++) {
                draft.put(i, x + downBy(i * (toX - x), howMany - 1), y + downBy(i * (toY - y), howMany - 1));
            }
        }

        void draftBlock(int x, int y, int columns, int gap, int howMany) {
            for (int i = 0; i < howMany; i++) {
                draft.put(i, x + gap * restBy(i, columns), y + gap * downBy(i, columns));
            }
        }

        void draftWedge(int x, int y, int gap, int howMany) {
            for (int i = 0; i < howMany; i++) {
                int row = downBy(i + 1, 2);
                int aside = restBy(i, 2) == 1 ? -gap * row : gap * row;
                draft.put(i, x + aside, y + gap * row);
            }
        }

        boolean isDraftOnField(int howMany) {
            for (int i = 0; i < howMany; i++) {
                if (!isOnField(draft.x(i), draft.y(i))) {
                    return false;
                }
            }
            return true;
        }

        int keepDraft() {
            int set = number;
            if (set < MOST_SETS) {
                numbered(set).copy(draft);
                number = set + 1;
            }
            return set;
        }
    }

    /** A part of the show: what is told of it, and from where to where each dot goes. */
    private static final class Part {
        private final Spots starts = new Spots();
        private final Spots ends = new Spots();
        private final int[] places = new int[MOST_DOTS];
        private int set;
        private int counts = 1;
        private int tempo = LEAST_TEMPO;
        private boolean isLeast;

        void tell(int set, int counts, int tempo, boolean isLeast) {
            this.set = set;
            this.counts = counts;
            this.tempo = tempo;
            this.isLeast = isLeast;
        }

        int set() {
            return set;
        }

        int counts() {
            return counts;
        }

        int tempo() {
            return tempo;
        }

        boolean isLeast() {
            return isLeast;
        }

        Spots starts() {
            return starts;
        }

        Spots ends() {
            return ends;
        }

        int placeOf(int dot) {
            return isInRow(dot) ? places[dot] : NONE;
        }

        void send(int dot, int place, Spots goal) {
            if (isInRow(dot)) {
                places[dot] = place;
                ends.put(dot, goal.x(place), goal.y(place));
            }
        }

        int xOf(int dot, int count) {
            return starts.x(dot) + downBy(count * (ends.x(dot) - starts.x(dot)), counts);
        }

        int yOf(int dot, int count) {
            return starts.y(dot) + downBy(count * (ends.y(dot) - starts.y(dot)), counts);
        }

        void stand(int count, Spots where, int howMany) {
            for (int dot = 0; dot < howMany; dot++) {
                where.put(dot, xOf(dot, count), yOf(dot, count));
            }
        }

        long squaresOfWays(int howMany) {
            long sum = 0;
            for (int dot = 0; dot < howMany; dot++) {
                sum += starts.squareTo(dot, ends, dot);
            }
            return sum;
        }

        boolean isBetterWithTwoChanged(int howMany) {
            for (int one = 0; one < howMany; one++) {
                for (int other = one + 1; other < howMany; other++) {
                    int now = starts.squareTo(one, ends, one) + starts.squareTo(other, ends, other);
                    int then = starts.squareTo(one, ends, other) + starts.squareTo(other, ends, one);
                    if (then < now) {
                        return true;
                    }
                }
            }
            return false;
        }

        int tenthsOfSeconds() {
            return downBy(counts * MINUTE_TENTHS, tempo);
        }
    }

    private static final class Show {
        private final Part[] parts = new Part[MOST_PARTS];
        // stands for a part that is not there, so that no reference is ever null
        private final Part spare = new Part();
        private final Pairing pairing = new Pairing();
        private int number;

        Show() {
            for (int part = 0; part < MOST_PARTS; part++) {
                parts[part] = new Part();
            }
        }

        int number() {
            return number;
        }

        Part numbered(int part) {
            return isWithin(part, 0, MOST_PARTS - 1) && parts[part] != null ? parts[part] : spare;
        }

        int grow() {
            int part = number;
            number = Math.min(number + 1, MOST_PARTS);
            return part;
        }

        void shrink() {
            number = Math.max(number - 1, 0);
        }

        /** Finds anew who goes where, in a part and in all that come later, as those begin where it ends. */
        void findFrom(int first, Sets sets, int howMany) {
            for (int part = first; part < number; part++) {
                Part found = numbered(part);
                Spots goal = sets.numbered(found.set());
                found.starts().copy(part == 0 ? goal : numbered(part - 1).ends());
                if (part > 0 && found.isLeast()) {
                    pairing.send(found, goal, howMany);
                } else {
                    sendKept(found, goal, howMany);
                }
            }
        }

        int tenthsOfSeconds() {
            int sum = 0;
            for (int part = 0; part < number; part++) {
                sum += numbered(part).tenthsOfSeconds();
            }
            return sum;
        }

        private static void sendKept(Part part, Spots goal, int howMany) {
            for (int dot = 0; dot < howMany; dot++) {
                part.send(dot, dot, goal);
            }
        }
    }

    /**
     * Finds who goes where with LEAST. The dots come in one by one; each takes a place, and sends others on
     * from place to place by the cheapest chain. Prices of dots and places keep each way's weight, less both
     * its prices, at 0 or above, and at 0 for the ways that are taken: so the ways together are the least.
     */
    private static final class Pairing {
        // above all that the places can add to the weights of a band
        private static final long SQUARE_WEIGHT = 10_000_000_000L;
        // above all that weights and prices can come to
        private static final long NOT_SEEN = 0x7fff_ffff_ffff_ffffL;

        private final long[][] weights = new long[MOST_DOTS][MOST_DOTS];
        private final long[] dotPrices = new long[MOST_DOTS];
        private final long[] placePrices = new long[MOST_DOTS];
        private final long[] gaps = new long[MOST_DOTS];
        private final int[] ahead = new int[MOST_DOTS];
        private final int[] holders = new int[MOST_DOTS];
        private final boolean[] isReached = new boolean[MOST_DOTS];
        private int number;

        void send(Part part, Spots goal, int howMany) {
            number = Math.min(howMany, MOST_DOTS);
            weigh(part.starts(), goal);
            for (int place = 0; place < number; place++) {
                dotPrices[place] = 0;
                placePrices[place] = 0;
                holders[place] = NONE;
            }
            for (int dot = 0; dot < number; dot++) {
                bringIn(dot);
            }
            for (int place = 0; place < number; place++) {
                part.send(holders[place], place, goal);
            }
        }

        /** The places stand in the weights as digits, the dot 0's first: so of several the one asked for is the least. */
        private void weigh(Spots from, Spots goal) {
            long digit = 1;
            for (int dot = number - 1; dot >= 0; dot--) {
                for (int place = 0; place < number; place++) {
                    weights[dot][place] = SQUARE_WEIGHT * from.squareTo(dot, goal, place) + digit * place;
                }
                digit *= MOST_DOTS;
            }
        }

        private void bringIn(int newcomer) {
            for (int place = 0; place < number; place++) {
                gaps[place] = NOT_SEEN;
                ahead[place] = NONE;
                isReached[place] = false;
            }
            int dot = newcomer;
            int place = NONE;
            for (int step = 0; step < number && dot != NONE; step++) {
                narrowGaps(dot, place);
                place = nearestPlace();
                if (!isInRow(place)) {
                    return;
                }
                movePrices(newcomer, gaps[place]);
                isReached[place] = true;
                dot = holders[place];
            }
            sendOn(newcomer, place);
        }

        /** Looks from a dot, who would have to leave a place (or has none yet), at all places not reached. */
        private void narrowGaps(int dot, int left) {
            if (!isInRow(dot)) {
                return;
            }
            for (int place = 0; place < number; place++) {
                long gap = weights[dot][place] - dotPrices[dot] - placePrices[place];
                if (!isReached[place] && gap < gaps[place]) {
                    gaps[place] = gap;
                    ahead[place] = left;
                }
            }
        }

        private int nearestPlace() {
            int nearest = NONE;
            long least = NOT_SEEN;
            for (int place = 0; place < number; place++) {
                if (!isReached[place] && gaps[place] < least) {
                    least = gaps[place];
                    nearest = place;
                }
            }
            return nearest;
        }

        private void movePrices(int newcomer, long by) {
            raise(newcomer, by);
            for (int place = 0; place < number; place++) {
                if (isReached[place]) {
                    raise(holders[place], by);
                    placePrices[place] -= by;
                } else {
                    gaps[place] -= by;
                }
            }
        }

        private void raise(int dot, long by) {
            if (isInRow(dot)) {
                dotPrices[dot] += by;
            }
        }

        /** Along the chain, from the free place at its end, each takes the place that lies behind his own. */
        private void sendOn(int newcomer, int freePlace) {
            int place = freePlace;
            for (int step = 0; step < number && isInRow(place); step++) {
                int left = ahead[place];
                holders[place] = isInRow(left) ? holders[left] : newcomer;
                place = left;
            }
        }
    }

    /** The first thing in a part that is not so, or none. */
    private static final class Fault {
        private int count = NONE;
        private int kind = NONE;
        private int dot = NONE;
        private int other = NONE;

        void tell(int count, int kind, int dot, int other) {
            this.count = count;
            this.kind = kind;
            this.dot = dot;
            this.other = other;
        }

        void clear() {
            tell(NONE, NONE, NONE, NONE);
        }

        boolean isFound() {
            return count != NONE;
        }

        int said(int what) {
            switch (what) {
                case 0:
                    return count;
                case 1:
                    return kind;
                case 2:
                    return dot;
                default:
                    return other;
            }
        }

        boolean isSameAs(Fault fault) {
            return count == fault.count && kind == fault.kind && dot == fault.dot && other == fault.other;
        }
    }

    /** Looks for a part's fault dot by dot and pair by pair, each only in counts ahead of what is found so far. */
    private static final class Watch {
        // with no step above the longest legs two ways can't meet, if they end farther apart than both
        private static final int MEETING_SQUARE = 4 * MOST_LEGS * MOST_LEGS;

        private final Spots[] stands = new Spots[MOST_COUNTS + 1];
        private final Spots spare = new Spots();
        private final Fault found = new Fault();
        private int openEnd;

        Watch() {
            for (int count = 0; count <= MOST_COUNTS; count++) {
                stands[count] = new Spots();
            }
        }

        Fault look(Part part, Dots dots) {
            int howMany = dots.number();
            found.clear();
            openEnd = part.counts() + 1;
            for (int count = 0; count < openEnd; count++) {
                part.stand(count, standAt(count), howMany);
            }
            for (int dot = 0; dot < howMany; dot++) {
                if (dots.marches(dot)) {
                    seekStep(dot, dots.stepSquare(dot, part.tempo()));
                }
            }
            seekPairs(NEAR, dots);
            seekPairs(CROSS, dots);
            return found;
        }

        private Spots standAt(int count) {
            return isWithin(count, 0, MOST_COUNTS) && stands[count] != null ? stands[count] : spare;
        }

        private void seekStep(int dot, int mostSquare) {
            for (int count = 1; count < openEnd; count++) {
                if (standAt(count).squareTo(dot, standAt(count - 1), dot) > mostSquare) {
                    tell(count, STEP, dot, NONE);
                    return;
                }
            }
        }

        private void seekPairs(int kind, Dots dots) {
            int howMany = dots.number();
            for (int one = 0; one < howMany; one++) {
                for (int other = one + 1; other < howMany && dots.marches(one); other++) {
                    if (kind == NEAR && dots.marches(other)) {
                        seekNear(one, other);
                    } else if (dots.marches(other)) {
                        seekCrossing(one, other);
                    }
                }
            }
        }

        private void seekNear(int one, int other) {
            for (int count = 1; count < openEnd; count++) {
                Spots now = standAt(count);
                if (now.squareTo(one, now, other) < NEAREST_SQUARE) {
                    tell(count, NEAR, one, other);
                    return;
                }
            }
        }

        private void seekCrossing(int one, int other) {
            for (int count = 1; count < openEnd; count++) {
                Spots now = standAt(count);
                boolean canMeet = now.squareTo(one, now, other) <= MEETING_SQUARE;
                if (canMeet && standAt(count - 1).isCrossing(now, one, other)) {
                    tell(count, CROSS, one, other);
                    return;
                }
            }
        }

        /** What is found later counts only if it comes in an earlier count, so that count closes the looking. */
        private void tell(int count, int kind, int dot, int other) {
            found.tell(count, kind, dot, other);
            openEnd = count;
        }
    }

    /** Looks at a part once more, count by count, with all distances. */
    private static final class Recount {
        private final Spots before = new Spots();
        private final Spots now = new Spots();
        private final int[][] squares = new int[MOST_DOTS][MOST_DOTS];
        private final Fault found = new Fault();

        Fault look(Part part, Dots dots) {
            int howMany = Math.min(dots.number(), MOST_DOTS);
            found.clear();
            part.stand(0, before, howMany);
            for (int count = 1; count <= part.counts() && !found.isFound(); count++) {
                part.stand(count, now, howMany);
                measure(howMany);
                recountSteps(count, part.tempo(), dots, howMany);
                recountNear(count, dots, howMany);
                recountCrossings(count, dots, howMany);
                before.copy(now);
            }
            return found;
        }

        /** All distances of this count; a dot's own one is that from the count ahead. */
        private void measure(int howMany) {
            for (int one = 0; one < howMany; one++) {
                squares[one][one] = now.squareTo(one, before, one);
                for (int other = one + 1; other < howMany; other++) {
                    squares[one][other] = now.squareTo(one, now, other);
                }
            }
        }

        private void recountSteps(int count, int tempo, Dots dots, int howMany) {
            for (int dot = 0; dot < howMany && !found.isFound(); dot++) {
                if (dots.marches(dot) && squares[dot][dot] > dots.stepSquare(dot, tempo)) {
                    found.tell(count, STEP, dot, NONE);
                }
            }
        }

        private void recountNear(int count, Dots dots, int howMany) {
            for (int one = 0; one < howMany; one++) {
                for (int other = one + 1; other < howMany && !found.isFound(); other++) {
                    if (squares[one][other] < NEAREST_SQUARE && dots.marches(one) && dots.marches(other)) {
                        found.tell(count, NEAR, one, other);
                    }
                }
            }
        }

        private void recountCrossings(int count, Dots dots, int howMany) {
            for (int one = 0; one < howMany; one++) {
                for (int other = one + 1; other < howMany && !found.isFound(); other++) {
                    if (before.isCrossing(now, one, other) && dots.marches(one) && dots.marches(other)) {
                        found.tell(count, CROSS, one, other);
                    }
                }
            }
        }
    }

    /** The pages as they were published. A page tells one place and each place has one page, so places are kept. */
    private static final class Pages {
        private final Spots[] published = new Spots[MOST_PARTS];
        private final Spots spare = new Spots();
        private int parts;

        Pages() {
            for (int part = 0; part < MOST_PARTS; part++) {
                published[part] = new Spots();
            }
        }

        int countUnlike(Show show, int howMany) {
            int shared = Math.min(parts, show.number());
            int unlike = (Math.max(parts, show.number()) - shared) * howMany;
            for (int part = 0; part < shared; part++) {
                for (int dot = 0; dot < howMany; dot++) {
                    if (publishedOf(part).squareTo(dot, show.numbered(part).ends(), dot) != 0) {
                        unlike++;
                    }
                }
            }
            return unlike;
        }

        void keep(Show show) {
            parts = show.number();
            for (int part = 0; part < parts; part++) {
                publishedOf(part).copy(show.numbered(part).ends());
            }
        }

        private Spots publishedOf(int part) {
            return isWithin(part, 0, MOST_PARTS - 1) && published[part] != null ? published[part] : spare;
        }
    }

    /** What the judges tell of the bands, and how long the show has to be. */
    private static final class Contest {
        private final int[][] captions = new int[BANDS][CAPTIONS];
        private final int[] penalties = new int[BANDS];
        private int leastClock;
        private int mostClock = MOST_CLOCK;

        void tellClock(int least, int most) {
            leastClock = least;
            mostClock = most;
        }

        void tellCaption(int band, int caption, int tenths) {
            if (isWithin(band, 0, BANDS - 1) && isWithin(caption, 0, CAPTIONS - 1)) {
                captions[band][caption] = tenths;
            }
        }

        void tellPenalty(int band, int tenths) {
            if (isWithin(band, 0, BANDS - 1)) {
                penalties[band] = tenths;
            }
        }

        int points(int band, int showTenths) {
            if (!isWithin(band, 0, BANDS - 1)) {
                return 0;
            }
            int sum = 2 * captions[band][0] + 2 * captions[band][1] + captions[band][2] + captions[band][3];
            int loss = band == 0 ? lossByClock(showTenths) : 0;
            return Math.max(downBy(sum, POINTS_DIVISOR) - penalties[band] - loss, 0);
        }

        /** A band's rank is the number of those ahead of it. */
        int bandAt(int rank, int showTenths) {
            for (int band = 0; band < BANDS; band++) {
                int ahead = 0;
                for (int other = 0; other < BANDS; other++) {
                    if (other != band && isAhead(other, band, showTenths)) {
                        ahead++;
                    }
                }
                if (ahead == rank) {
                    return band;
                }
            }
            return NONE;
        }

        private boolean isAhead(int one, int other, int showTenths) {
            int more = points(one, showTenths) - points(other, showTenths);
            for (int caption = 0; caption < CAPTIONS && more == 0; caption++) {
                more = told(one, caption) - told(other, caption);
            }
            return more == 0 ? one < other : more > 0;
        }

        private int told(int band, int caption) {
            boolean isThere = isWithin(band, 0, BANDS - 1) && isWithin(caption, 0, CAPTIONS - 1);
            return isThere ? captions[band][caption] : 0;
        }

        private int lossByClock(int showTenths) {
            int outside = Math.max(Math.max(leastClock - showTenths, showTenths - mostClock), 0);
            return downBy(outside + LOSS_TENTHS - 1, LOSS_TENTHS);
        }
    }
}
