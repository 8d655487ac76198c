import java.math.BigInteger;
import java.util.ArrayDeque;
import java.util.ArrayList;
import java.util.Deque;
import java.util.HashMap;
import java.util.List;
import java.util.Map;
import java.util.TreeMap;

/** The document once more, as slow and as plain as can be, to compare the class with. */
final class PlainKerb {
    /** The WORTH of a PLACE by the RULE that holds. */
    interface Worth {
        int of(int p, int l, int b, int a, int n);
    }

    private record State(TreeMap<Integer, Integer> cars, int came, int left, int lost) {
    }

    final int yards;
    final int leaving;
    final int[] lengths;
    final int[] weights;
    final boolean[] gates;
    int obey;
    Worth rule;
    TreeMap<Integer, Integer> cars = new TreeMap<>();
    int came;
    int left;
    int lost;
    private final Deque<State> acts = new ArrayDeque<>();
    private State image;

    PlainKerb(int yards, int obey, int leaving, int[] lengths, int[] weights, boolean[] gates) {
        this.yards = yards;
        this.obey = obey;
        this.leaving = leaving;
        this.lengths = lengths;
        this.weights = weights;
        this.gates = gates;
    }

    private State state() {
        return new State(new TreeMap<>(cars), came, left, lost);
    }

    private void set(State s) {
        cars = new TreeMap<>(s.cars);
        came = s.came;
        left = s.left;
        lost = s.lost;
    }

    private void act() {
        acts.addLast(state());
        if (acts.size() > 40) {
            acts.removeFirst();
        }
    }

    int acts() {
        return acts.size();
    }

    int undo() {
        if (acts.isEmpty()) {
            return -1;
        }
        set(acts.removeLast());
        return acts.size();
    }

    int image() {
        image = state();
        return cars.size();
    }

    int back() {
        if (image == null) {
            return -1;
        }
        set(image);
        acts.clear();
        return cars.size();
    }

    int carOn(int yard) {
        for (Map.Entry<Integer, Integer> car : cars.entrySet()) {
            if (yard >= car.getKey() && yard < car.getKey() + lengths[car.getValue()]) {
                return car.getKey();
            }
        }
        return -1;
    }

    boolean free(int yard) {
        return yard >= 0 && yard < yards && !gates[yard] && carOn(yard) < 0;
    }

    boolean can(int length, int place) {
        for (int y = place; y < place + length; y++) {
            if (!free(y)) {
                return false;
            }
        }
        return true;
    }

    List<Integer> places(int length) {
        List<Integer> all = new ArrayList<>();
        for (int p = 0; p < yards; p++) {
            if (can(length, p)) {
                all.add(p);
            }
        }
        return all;
    }

    private int freeAhead(int place) {
        int n = 0;
        while (free(place - 1 - n)) {
            n++;
        }
        return n;
    }

    private int freeBehind(int place, int length) {
        int n = 0;
        while (free(place + length + n)) {
            n++;
        }
        return n;
    }

    int where(int sort, int parker) {
        int best = -1;
        int bestMark = 0;
        int length = lengths[sort];
        for (int p : places(length)) {
            int b = freeAhead(p);
            int a = freeBehind(p, length);
            int mark = 0;
            if (parker == 1) {
                mark = Math.min(a, b);
            } else if (parker == 2 && rule != null) {
                mark = -rule.of(p, length, b, a, cars.size());
            } else if (parker == 4) {
                cars.put(p, sort);
                mark = places(length).size();
                cars.remove(p);
            }
            if (best < 0 || mark < bestMark) {
                best = p;
                bestMark = mark;
            }
        }
        return best;
    }

    boolean stop(int sort, int place) {
        if (!can(lengths[sort], place)) {
            return false;
        }
        act();
        cars.put(place, sort);
        return true;
    }

    int leave(int yard) {
        int place = carOn(yard);
        if (place >= 0) {
            act();
            cars.remove(place);
        }
        return place;
    }

    private BigInteger x;

    private int draw(int m) {
        BigInteger round = BigInteger.ONE.shiftLeft(64);
        x = x.multiply(new BigInteger("6364136223846793005")).add(new BigInteger("1442695040888963407")).mod(round);
        return x.shiftRight(33).mod(BigInteger.valueOf(m)).intValueExact();
    }

    int run(int n, long seed) {
        x = BigInteger.valueOf(seed).mod(BigInteger.ONE.shiftLeft(64));
        for (int i = 0; i < n; i++) {
            act();
            if (draw(100) < leaving && !cars.isEmpty()) {
                cars.remove(new ArrayList<>(cars.keySet()).get(draw(cars.size())));
                left++;
            }
            List<Integer> tickets = new ArrayList<>();
            for (int s = 0; s < lengths.length; s++) {
                for (int w = 0; w < weights[s]; w++) {
                    tickets.add(s);
                }
            }
            int sort = tickets.get(draw(tickets.size()));
            List<Integer> all = places(lengths[sort]);
            if (all.isEmpty()) {
                lost++;
            } else {
                cars.put(all.get(draw(all.size())), sort);
                came++;
            }
        }
        return cars.size();
    }

    List<Integer> gaps() {
        List<Integer> all = new ArrayList<>();
        for (int y = 0; y < yards; y++) {
            if (free(y) && !free(y - 1)) {
                all.add(1 + freeBehind(y, 1));
            }
        }
        return all;
    }

    private static long e(int n, int length, int obey, Map<Integer, Long> known) {
        if (n < length) {
            return 0;
        }
        Long found = known.get(n);
        if (found != null) {
            return found;
        }
        long any = 0;
        int places = 0;
        for (int p = 0; p + length <= n; p++) {
            any += e(p, length, obey, known) + e(n - length - p, length, obey, known);
            places++;
        }
        any /= places;
        long mean = obey < 0 ? 1000000 + any
            : 1000000 + (obey * e(n - length, length, obey, known) + (100 - obey) * any) / 100;
        known.put(n, mean);
        return mean;
    }

    long mean(int sort, boolean obeyed) {
        long all = 0;
        for (int gap : gaps()) {
            all += e(gap, lengths[sort], obeyed ? obey : -1, new HashMap<>());
        }
        return all;
    }

    private static final BigInteger PARTS = BigInteger.valueOf(1000000000);

    private static Map<Integer, BigInteger> both(Map<Integer, BigInteger> one, Map<Integer, BigInteger> two) {
        Map<Integer, BigInteger> all = new HashMap<>();
        one.forEach((i, p) -> two.forEach((j, q) -> all.merge(i + j, p.multiply(q).divide(PARTS), BigInteger::add)));
        return all;
    }

    private static Map<Integer, BigInteger> parts(int n, int length, Map<Integer, Map<Integer, BigInteger>> known) {
        if (known.containsKey(n)) {
            return known.get(n);
        }
        Map<Integer, BigInteger> sums = new HashMap<>();
        if (n < length) {
            sums.put(0, PARTS);
        } else {
            for (int p = 0; p + length <= n; p++) {
                both(parts(p, length, known), parts(n - length - p, length, known))
                    .forEach((j, q) -> sums.merge(j + 1, q, BigInteger::add));
            }
            sums.replaceAll((j, q) -> q.divide(BigInteger.valueOf(n - length + 1)));
        }
        known.put(n, sums);
        return sums;
    }

    long likely(int sort, int j) {
        Map<Integer, BigInteger> all = null;
        for (int gap : gaps()) {
            Map<Integer, BigInteger> one = parts(gap, lengths[sort], new HashMap<>());
            all = all == null ? one : both(all, one);
        }
        if (all == null) {
            return j == 0 ? 1000000000 : 0;
        }
        return all.getOrDefault(j, BigInteger.ZERO).longValueExact();
    }

    /** All ways in which cars of the LENGTH can fill up n YARDS: the fewest and the most. */
    private static int[] fill(int n, int length, Map<Integer, int[]> known) {
        if (known.containsKey(n)) {
            return known.get(n);
        }
        int[] ends = {0, 0};
        if (n >= length) {
            ends[0] = 99;
            for (int p = 0; p + length <= n; p++) {
                int[] one = fill(p, length, known);
                int[] two = fill(n - length - p, length, known);
                ends[0] = Math.min(ends[0], 1 + one[0] + two[0]);
                ends[1] = Math.max(ends[1], 1 + one[1] + two[1]);
            }
        }
        known.put(n, ends);
        return ends;
    }

    int ends(int sort, int what) {
        int all = 0;
        for (int gap : gaps()) {
            all += fill(gap, lengths[sort], new HashMap<>())[what];
        }
        return all;
    }

    int bays(int sort, int b) {
        int n = 0;
        for (int p : places(lengths[sort])) {
            n += b >= lengths[sort] && p % b == 0 ? 1 : 0;
        }
        return n;
    }

    private boolean gateBetween(int from, int to) {
        for (int y = from; y < to; y++) {
            if (y < 0 || y >= yards || gates[y]) {
                return true;
            }
        }
        return false;
    }

    /** The least sum of moves and its cars: the i-th of those ahead (or behind) must stay clear of the limit. */
    private int[] clear(List<int[]> row, int i, int limit, boolean down) {
        if (i == row.size()) {
            return new int[] {0, 0};
        }
        int[] best = null;
        int place = row.get(i)[0];
        int length = row.get(i)[1];
        for (int by = 0; by <= yards; by++) {
            int to = down ? place - by : place + by;
            boolean off = down ? to + length > limit : to < limit;
            if (off || gateBetween(Math.min(to, place), Math.max(to, place) + length)) {
                continue;
            }
            int[] rest = clear(row, i + 1, down ? to : to + length, down);
            if (rest != null && (best == null || rest[0] + by < best[0])) {
                best = new int[] {rest[0] + by, rest[1] + (by > 0 ? 1 : 0)};
            }
            if (best != null) {
                break;
            }
        }
        return best;
    }

    int[] hearse(int sort) {
        int length = lengths[sort];
        int[] best = {-1, -1, -1};
        for (int p = 0; p + length <= yards; p++) {
            if (gateBetween(p, p + length)) {
                continue;
            }
            List<int[]> down = new ArrayList<>();
            List<int[]> up = new ArrayList<>();
            for (Map.Entry<Integer, Integer> car : cars.entrySet()) {
                int[] c = {car.getKey(), lengths[car.getValue()]};
                if (2 * c[0] + c[1] < 2 * p + length) {
                    down.add(0, c);
                } else {
                    up.add(c);
                }
            }
            int[] one = clear(down, 0, p, true);
            int[] two = clear(up, 0, p + length, false);
            if (one != null && two != null && (best[2] < 0 || one[0] + two[0] < best[0])) {
                best = new int[] {one[0] + two[0], one[1] + two[1], p};
            }
        }
        return best;
    }

    long[] gate(int sort) {
        TreeMap<Integer, Integer> stood = cars;
        cars = new TreeMap<>();
        long[] best = {-1, -1};
        for (int y = 0; y < yards; y++) {
            if (!gates[y]) {
                gates[y] = true;
                long mean = mean(sort, false);
                gates[y] = false;
                if (mean > best[1]) {
                    best = new long[] {y, mean};
                }
            }
        }
        cars = stood;
        return best;
    }

    /** Orders by taking one car after the other away: how many, and who can have been the last. */
    long[] came() {
        if (cars.size() > 12) {
            return new long[] {-1, -1};
        }
        TreeMap<Integer, Integer> stood = new TreeMap<>(cars);
        Map<Integer, Long> known = new HashMap<>();
        long bits = 0;
        for (int place : stood.keySet()) {
            cars = new TreeMap<>(stood);
            cars.remove(place);
            if ((!free(place - 1) || !free(place + lengths[stood.get(place)])) && orders(known) > 0) {
                bits |= 1L << place;
            }
        }
        cars = stood;
        return new long[] {orders(known), bits};
    }

    private long orders(Map<Integer, Long> known) {
        if (cars.isEmpty()) {
            return 1;
        }
        int key = 0;
        for (int place : cars.keySet()) {
            key |= 1 << place;
        }
        if (known.containsKey(key)) {
            return known.get(key);
        }
        long all = 0;
        for (int place : new ArrayList<>(cars.keySet())) {
            int sort = cars.remove(place);
            if (!free(place - 1) || !free(place + lengths[sort])) {
                all += orders(known);
            }
            cars.put(place, sort);
        }
        known.put(key, all);
        return all;
    }

    int gapsTold(int what) {
        int longest = 0;
        int free = 0;
        int useless = 0;
        for (int gap : gaps()) {
            longest = Math.max(longest, gap);
            free += gap;
            boolean useful = false;
            for (int length : lengths) {
                useful |= length <= gap;
            }
            useless += useful ? 0 : gap;
        }
        return new int[] {longest, gaps().size(), free, useless}[what];
    }

    static long[] seek(int n, int chance, int home, int walk, int round) {
        long[] behind = new long[n + 2];
        behind[n + 1] = 1000L * round;
        long first = -1;
        for (int i = n; i >= 1; i--) {
            long cost = 1000L * walk * Math.abs(i - home);
            behind[i] = (chance * Math.min(cost, behind[i + 1]) + (100 - chance) * behind[i + 1]) / 100;
            first = cost <= behind[i + 1] ? i : first;
        }
        return new long[] {behind[1], first};
    }
}
