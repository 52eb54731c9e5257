import java.util.ArrayList;
import java.util.HashMap;
import java.util.List;
import java.util.Map;

/**
 * The document once more, in the plainest form: nothing is kept but what was told, all is found anew at each
 * question, and LEAST looks at all orders. RandomRunsTest compares DrillField with it.
 */
final class PlainField {
    record Place(int x, int y) {
        long square(Place p) {
            return (long) (x - p.x) * (x - p.x) + (long) (y - p.y) * (y - p.y);
        }
    }

    record Told(int set, int counts, int tempo, boolean isLeast) { }

    record Fault(int count, int kind, int dot, int other) { }

    record PageOf(int part, int dot) { }

    private int dots = 4;
    private int[] legs = new int[10];
    private boolean[] ill = new boolean[10];
    private int[] known = {-1, -1, -1};
    private boolean[] alternateIll = new boolean[3];
    private final List<List<Place>> sets = new ArrayList<>();
    private final List<Told> parts = new ArrayList<>();
    private Map<PageOf, List<Integer>> published = new HashMap<>();
    private int leastClock;
    private int mostClock = 9999;
    private final int[][] captions = new int[6][4];
    private final int[] penalties = new int[6];

    PlainField() {
        java.util.Arrays.fill(legs, 14);
    }

    private static void range(boolean is) {
        if (!is) {
            throw new IllegalArgumentException();
        }
    }

    private static void index(int i, int below) {
        if (i < 0 || i >= below) {
            throw new IndexOutOfBoundsException();
        }
    }

    private static void state(boolean is) {
        if (!is) {
            throw new IllegalStateException();
        }
    }

    void band(int n) {
        range(n >= 2 && n <= 10);
        state(sets.isEmpty());
        dots = n;
        java.util.Arrays.fill(legs, 14);
        java.util.Arrays.fill(ill, false);
        java.util.Arrays.fill(known, -1);
    }

    int legs(int dot, int tenths) {
        index(dot, dots);
        range(tenths >= 5 && tenths <= 40);
        int was = legs[dot];
        legs[dot] = tenths;
        return was;
    }

    boolean marches(int dot) {
        boolean is = !ill[dot];
        for (int a = 0; a < 3; a++) {
            is |= known[a] == dot && !alternateIll[a];
        }
        return is;
    }

    boolean ill(int dot, boolean isIll) {
        index(dot, dots);
        ill[dot] = isIll;
        return marches(dot);
    }

    void alternate(int a, int dot, boolean isIll) {
        index(a, 3);
        index(dot + 1, dots + 1);
        known[a] = dot;
        alternateIll[a] = isIll;
    }

    private static int down(long a, long b) {
        long q = a / b;
        return (int) (q * b > a ? q - 1 : q);
    }

    private int keep(List<Place> places) {
        for (Place p : places) {
            range(p.x >= 0 && p.x <= 1600 && p.y >= 0 && p.y <= 840);
        }
        state(sets.size() < 12);
        sets.add(places);
        return sets.size() - 1;
    }

    int line(int x, int y, int toX, int toY) {
        List<Place> places = new ArrayList<>();
        for (long i = 0; i < dots; i++) {
            places.add(new Place(x + down(i * ((long) toX - x), dots - 1), y + down(i * ((long) toY - y), dots - 1)));
        }
        range(toX >= 0 && toX <= 1600 && toY >= 0 && toY <= 840);
        return keep(places);
    }

    int block(int x, int y, int columns, int gap) {
        range(columns >= 1 && columns <= 10 && gap >= 1 && gap <= 400);
        List<Place> places = new ArrayList<>();
        for (int i = 0; i < dots; i++) {
            places.add(new Place(x + gap * (i % columns), y + gap * (i / columns)));
        }
        return keep(places);
    }

    int wedge(int x, int y, int gap) {
        range(gap >= 1 && gap <= 400);
        List<Place> places = new ArrayList<>();
        for (int i = 0; i < dots; i++) {
            int r = (i + 1) / 2;
            places.add(new Place(i % 2 == 1 ? x - gap * r : x + gap * r, y + gap * r));
        }
        return keep(places);
    }

    private Told told(int set, int counts, int tempo, boolean isLeast) {
        index(set, sets.size());
        range(counts >= 1 && counts <= 64 && tempo >= 60 && tempo <= 240);
        return new Told(set, counts, tempo, isLeast);
    }

    int part(int set, int counts, int tempo, boolean isLeast) {
        Told told = told(set, counts, tempo, isLeast);
        state(parts.size() < 12);
        parts.add(told);
        return parts.size() - 1;
    }

    void change(int part, int set, int counts, int tempo, boolean isLeast) {
        index(part, parts.size());
        parts.set(part, told(set, counts, tempo, isLeast));
    }

    int cut() {
        state(!parts.isEmpty());
        parts.remove(parts.size() - 1);
        return parts.size();
    }

    /** Who goes where in a part. */
    private int[] goes(int part) {
        int[] goes = new int[dots];
        for (int dot = 0; dot < dots; dot++) {
            goes[dot] = dot;
        }
        if (part == 0 || !parts.get(part).isLeast) {
            return goes;
        }
        List<Place> from = ends(part - 1);
        List<Place> to = sets.get(parts.get(part).set);
        if (dots > 6) {
            return cheapest(from, to);
        }
        int[][] best = new int[1][];
        tryAll(from, to, new int[dots], 0, best);
        return best[0];
    }

    private long sum(List<Place> from, List<Place> to, int[] goes) {
        long sum = 0;
        for (int dot = 0; dot < dots; dot++) {
            sum += from.get(dot).square(to.get(goes[dot]));
        }
        return sum;
    }

    /** All orders come by rising places, so of several the first one stays. */
    private void tryAll(List<Place> from, List<Place> to, int[] goes, int dot, int[][] best) {
        if (dot == dots) {
            if (best[0] == null || sum(from, to, goes) < sum(from, to, best[0])) {
                best[0] = goes.clone();
            }
            return;
        }
        for (int place = 0; place < dots; place++) {
            boolean isFree = true;
            for (int other = 0; other < dot; other++) {
                isFree &= goes[other] != place;
            }
            if (isFree) {
                goes[dot] = place;
                tryAll(from, to, goes, dot + 1, best);
            }
        }
    }

    /** The same for many dots: the least of all that is left, for each lot of places that are taken. */
    private int[] cheapest(List<Place> from, List<Place> to) {
        long[] left = new long[1 << dots];
        for (int taken = (1 << dots) - 2; taken >= 0; taken--) {
            left[taken] = Long.MAX_VALUE;
            for (int place = 0; place < dots; place++) {
                if ((taken >> place & 1) == 0) {
                    long way = from.get(Integer.bitCount(taken)).square(to.get(place));
                    left[taken] = Math.min(left[taken], way + left[taken | 1 << place]);
                }
            }
        }
        int[] goes = new int[dots];
        int taken = 0;
        for (int dot = 0; dot < dots; dot++) {
            int place = 0;
            while ((taken >> place & 1) == 1
                    || from.get(dot).square(to.get(place)) + left[taken | 1 << place] != left[taken]) {
                place++;
            }
            goes[dot] = place;
            taken |= 1 << place;
        }
        return goes;
    }

    private List<Place> ends(int part) {
        int[] goes = goes(part);
        List<Place> ends = new ArrayList<>();
        for (int dot = 0; dot < dots; dot++) {
            ends.add(sets.get(parts.get(part).set).get(goes[dot]));
        }
        return ends;
    }

    private List<Place> starts(int part) {
        return ends(part == 0 ? 0 : part - 1);
    }

    int place(int part, int dot) {
        index(part, parts.size());
        index(dot, dots);
        return goes(part)[dot];
    }

    long walking(int part) {
        index(part, parts.size());
        long sum = 0;
        for (int dot = 0; dot < dots; dot++) {
            sum += starts(part).get(dot).square(ends(part).get(dot));
        }
        return sum;
    }

    private List<Place> stand(int part, int count) {
        List<Place> stand = new ArrayList<>();
        List<Place> starts = starts(part);
        List<Place> ends = ends(part);
        int counts = parts.get(part).counts;
        for (int dot = 0; dot < dots; dot++) {
            Place from = starts.get(dot);
            Place to = ends.get(dot);
            stand.add(new Place(from.x + down(count * (to.x - from.x), counts),
                    from.y + down(count * (to.y - from.y), counts)));
        }
        return stand;
    }

    int at(int part, int count, int dot) {
        index(part, parts.size());
        index(dot, dots);
        range(count >= 0 && count <= parts.get(part).counts);
        Place place = stand(part, count).get(dot);
        return 2000 * place.x + place.y;
    }

    private static long side(Place a, Place b, Place p) {
        return Long.signum((long) (b.x - a.x) * (p.y - a.y) - (long) (b.y - a.y) * (p.x - a.x));
    }

    private static boolean cross(Place a, Place b, Place c, Place d) {
        return side(a, b, c) * side(a, b, d) == -1 && side(c, d, a) * side(c, d, b) == -1;
    }

    Fault faultOf(int part) {
        Told told = parts.get(part);
        List<Place> before = stand(part, 0);
        for (int count = 1; count <= told.counts; count++) {
            List<Place> now = stand(part, count);
            for (int dot = 0; dot < dots; dot++) {
                int most = told.tempo > 120 ? legs[dot] * 120 / told.tempo : legs[dot];
                if (marches(dot) && before.get(dot).square(now.get(dot)) > most * most) {
                    return new Fault(count, 0, dot, -1);
                }
            }
            for (int kind = 1; kind <= 2; kind++) {
                for (int one = 0; one < dots; one++) {
                    for (int other = one + 1; other < dots; other++) {
                        boolean is = kind == 1 ? now.get(one).square(now.get(other)) < 100
                                : cross(before.get(one), now.get(one), before.get(other), now.get(other));
                        if (is && marches(one) && marches(other)) {
                            return new Fault(count, kind, one, other);
                        }
                    }
                }
            }
            before = now;
        }
        return new Fault(-1, -1, -1, -1);
    }

    int fault(int part, int what) {
        index(part, parts.size());
        range(what >= 0 && what <= 3);
        Fault fault = faultOf(part);
        return new int[] {fault.count, fault.kind, fault.dot, fault.other}[what];
    }

    int phase(int part, int count, int x, int y) {
        index(part, parts.size());
        range(count >= 0 && count <= parts.get(part).counts);
        range(x >= 0 && x <= 1600 && y >= -1000 && y <= -1);
        List<Integer> times = new ArrayList<>();
        for (int dot = 0; dot < dots; dot++) {
            if (marches(dot)) {
                times.add((int) Math.floor(Math.sqrt(stand(part, count).get(dot).square(new Place(x, y)))) / 6);
            }
        }
        java.util.Collections.sort(times);
        return times.isEmpty() ? 0 : times.get(times.size() - 1) - times.get(0);
    }

    boolean caught(int part, int count, int dot, int height, int wind) {
        index(part, parts.size());
        index(dot, dots);
        range(count >= 0 && count <= parts.get(part).counts);
        range(height >= 1 && height <= 9 && wind >= -20 && wind <= 20);
        state(marches(dot));
        Place toss = stand(part, count).get(dot);
        Place then = stand(part, Math.min(count + height, parts.get(part).counts)).get(dot);
        return Math.abs(toss.x + wind * height - then.x) <= 10 && Math.abs(toss.y - then.y) <= 10;
    }

    private List<Integer> words(int part, int dot) {
        Place end = ends(part).get(dot);
        int line = down(end.x + 40, 80);
        int nearest = 0;
        for (int row = 1; row < 4; row++) {
            if (Math.abs(end.y - 280 * row) < Math.abs(end.y - 280 * nearest)) {
                nearest = row;
            }
        }
        return List.of(line, end.x - 80 * line, nearest, end.y - 280 * nearest);
    }

    int page(int part, int dot, int what) {
        index(part, parts.size());
        index(dot, dots);
        range(what >= 0 && what <= 3);
        return words(part, dot).get(what);
    }

    private Map<PageOf, List<Integer>> pages() {
        Map<PageOf, List<Integer>> pages = new HashMap<>();
        for (int part = 0; part < parts.size(); part++) {
            for (int dot = 0; dot < dots; dot++) {
                pages.put(new PageOf(part, dot), words(part, dot));
            }
        }
        return pages;
    }

    int changed() {
        Map<PageOf, List<Integer>> pages = pages();
        int changed = 0;
        for (PageOf page : pages.keySet()) {
            changed += pages.get(page).equals(published.get(page)) ? 0 : 1;
        }
        for (PageOf page : published.keySet()) {
            changed += pages.containsKey(page) ? 0 : 1;
        }
        return changed;
    }

    int publish() {
        int changed = changed();
        published = pages();
        return changed;
    }

    int lasts() {
        int sum = 0;
        for (Told told : parts) {
            sum += told.counts * 600 / told.tempo;
        }
        return sum;
    }

    void clock(int least, int most) {
        range(least >= 0 && least <= 9999);
        range(most >= least && most <= 9999);
        leastClock = least;
        mostClock = most;
    }

    private int points(int band) {
        int[] c = captions[band];
        int points = (2 * c[0] + 2 * c[1] + c[2] + c[3]) / 6 - penalties[band];
        for (int begun = lasts(); band == 0 && begun < leastClock; begun += 30) {
            points--;
        }
        for (int begun = lasts(); band == 0 && begun > mostClock; begun -= 30) {
            points--;
        }
        return Math.max(points, 0);
    }

    int judge(int band, int caption, int tenths) {
        index(band, 6);
        index(caption, 4);
        range(tenths >= 0 && tenths <= 1000);
        captions[band][caption] = tenths;
        return points(band);
    }

    int penalty(int band, int tenths) {
        index(band, 6);
        range(tenths >= 0 && tenths <= 1000);
        penalties[band] = tenths;
        return points(band);
    }

    int ranked(int rank) {
        range(rank >= 0 && rank <= 5);
        List<Integer> bands = new ArrayList<>(List.of(0, 1, 2, 3, 4, 5));
        bands.sort((a, b) -> {
            int by = Integer.compare(points(b), points(a));
            for (int caption = 0; caption < 4 && by == 0; caption++) {
                by = Integer.compare(captions[b][caption], captions[a][caption]);
            }
            return by;
        });
        return bands.get(rank);
    }

    int rehearse(int minutes, int heat) {
        range(minutes >= 1 && minutes <= 9999);
        range(heat >= 0 && heat <= 60);
        if (heat >= 36) {
            return -1;
        }
        int work = heat < 28 ? 50 : heat < 32 ? 30 : 20;
        int rest = heat < 32 ? 10 : 20;
        int sum = 0;
        for (int left = minutes; left > 0; left -= work) {
            sum += Math.min(left, work) + (left > work ? rest : 0);
        }
        return sum;
    }
}
