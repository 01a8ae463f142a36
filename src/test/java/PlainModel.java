import java.util.ArrayList;
import java.util.Arrays;
import java.util.List;
import java.util.regex.Matcher;
import java.util.regex.Pattern;

/**
 * The document read a second time, as directly as it can be and without a thought for speed: laws are known by a
 * pattern and asked as texts, every sum is made anew each time.
 */
final class PlainModel {
    private static final int[] ABOVE = {-1, 0, 1, 0, 0, 4, 1};
    private static final Pattern LAW = Pattern.compile(lawPattern());

    private List<int[]> pauses = new ArrayList<>();   // kind, tick, size, v, odds now, odds one later
    private List<int[]> works = new ArrayList<>();    // lag, power, store, cost, from, n
    private List<String> laws = new ArrayList<>();
    private List<Integer> row = new ArrayList<>();
    private String tape = "";
    private int[] settings = {0, 1, 100};
    private final List<Integer> bodies = new ArrayList<>();
    private PlainModel image = null;

    private static String lawPattern() {
        String number = "(?:0|[1-9][0-9]?[0-9]?)";
        String factor = "[ackst][<=>]" + number;
        for (int open = 0; open < 5; open++) {
            String term = factor + "(?:&" + factor + ")*";
            String expression = term + "(?:\\|" + term + ")*";
            factor = "(?:[ackst][<=>]" + number + "|!" + factor + "|\\(" + expression + "\\))";
        }
        String term = factor + "(?:&" + factor + ")*";
        String clause = "(?:(?:draw|ease) " + number + " " + term + "(?:\\|" + term + ")*|most " + number + ")";
        return clause + "(?:;" + clause + "){0,7}";
    }

    /** -1, or the place of the first byte with which no law can go on. */
    static int fault(String text) {
        for (int n = 1; n <= text.length(); n++) {
            Matcher matcher = LAW.matcher(text.substring(0, n));
            if (!matcher.matches() && !matcher.hitEnd()) {
                return n - 1;
            }
        }
        return LAW.matcher(text).matches() ? -1 : text.length();
    }

    // ---- laws, asked as texts

    private static boolean in(int n, int low, int high) {
        return n >= low && n <= high;
    }

    /** Splits at the signs that stand in no brackets. */
    private static List<String> split(String text, char sign) {
        List<String> parts = new ArrayList<>();
        int open = 0;
        StringBuilder part = new StringBuilder();
        for (char c : text.toCharArray()) {
            open += c == '(' ? 1 : c == ')' ? -1 : 0;
            if (c == sign && open == 0) {
                parts.add(part.toString());
                part.setLength(0);
            } else {
                part.append(c);
            }
        }
        parts.add(part.toString());
        return parts;
    }

    private static boolean holds(String e, int[] values) {
        List<String> ors = split(e, '|');
        if (ors.size() > 1) {
            return ors.stream().anyMatch(part -> holds(part, values));
        }
        List<String> ands = split(e, '&');
        if (ands.size() > 1) {
            return ands.stream().allMatch(part -> holds(part, values));
        }
        if (e.startsWith("!")) {
            return !holds(e.substring(1), values);
        }
        if (e.startsWith("(")) {
            return holds(e.substring(1, e.length() - 1), values);
        }
        int value = values["acskt".indexOf(e.charAt(0))];
        int order = Integer.compare(value, Integer.parseInt(e.substring(2)));
        return order == "<=>".indexOf(e.charAt(1)) - 1;
    }

    private int percent(int[] pause, int age, int tick) {
        int[] values = {age, settings[0], pause[2], pause[0], tick};
        int draws = 0;
        int eases = 0;
        for (String clause : laws.get(laws.size() - 1).split(";")) {
            String[] parts = clause.split(" ");
            if (parts[0].equals("draw") && holds(parts[2], values)) {
                draws += Integer.parseInt(parts[1]);
            }
            if (parts[0].equals("ease") && holds(parts[2], values)) {
                eases += Integer.parseInt(parts[1]);
            }
        }
        return draws > eases ? draws - eases : 0;
    }

    private int most() {
        int most = 999;
        for (String clause : laws.get(laws.size() - 1).split(";")) {
            most = clause.startsWith("most") ? Integer.parseInt(clause.substring(5)) : most;
        }
        return most;
    }

    private int plain(int[] pause, int age, int tick) {
        if (age < 0) {
            return 0;
        }
        int heads = pause[2] / settings[1];
        return Math.min(most(), heads * percent(pause, age, tick) / 100);
    }

    private int drawnBy(int[] pause, int later, int tick) {
        int kind = pause[0];
        int v = pause[3];
        int age = tick - (pause[1] + later);
        int heads = pause[2] / settings[1];
        if (kind == 2) {
            return plain(pause, age - v, tick);
        }
        if (kind == 3) {
            return age >= 0 && percent(pause, age, tick) > 0 ? plain(pause, age, tick) + v : plain(pause, age, tick);
        }
        if (kind == 4 || kind == 5) {
            if (in(age, 0, v - 1)) {
                return kind == 4 ? -heads : heads;
            }
            return plain(pause, age - v, tick);
        }
        if (kind == 6) {
            return plain(pause, age, tick) / 2 + plain(pause, age - v, tick - v) / 2;
        }
        return plain(pause, age, tick);
    }

    private long demandOf(int tick, int[] delays) {
        long sum = 0;
        for (int p = 0; p < pauses.size(); p++) {
            sum += drawnBy(pauses.get(p), delays[p], tick);
        }
        return sum;
    }

    // ---- the beat

    private static int ticksOf(int[] work) {
        return Math.min(work[2], work[5]);
    }

    private long madeBy(List<int[]> all, int tick) {
        long sum = 0;
        for (int[] work : all) {
            int first = work[4] + work[0];
            sum += in(tick, first, first + ticksOf(work) - 1) ? work[1] : 0;
        }
        return sum;
    }

    private static int costsOf(List<int[]> all) {
        return all.stream().mapToInt(work -> ticksOf(work) * work[3]).sum();
    }

    private long[] demands(int[] delays) {
        long[] all = new long[40];
        Arrays.setAll(all, t -> demandOf(t, delays));
        return all;
    }

    private long[] demands() {
        return demands(new int[8]);
    }

    private long[] beats(long[] demands, List<int[]> all, int inertia) {
        long[] beats = new long[40];
        for (int t = 0; t < 40; t++) {
            beats[t] = (t == 0 ? 0 : beats[t - 1]) + (madeBy(all, t) - demands[t]) * 10 / inertia;
        }
        return beats;
    }

    private static int firstOf(long[] beats, int bound) {
        for (int t = 0; t < 40; t++) {
            if (beats[t] > bound || beats[t] < -bound) {
                return t;
            }
        }
        return -5;
    }

    // ---- the face

    int pause(int kind, int tick, int size, int v) {
        if (!in(kind, 0, 6)) {
            return -1;
        }
        if (!in(tick, 0, 39) || !in(size, 0, 99) || !in(v, 0, 9)) {
            return -2;
        }
        if (pauses.size() == 8) {
            return -4;
        }
        pauses.add(new int[] {kind, tick, size, v, 10, 0});
        return pauses.size() - 1;
    }

    int of(int pause, int what) {
        return in(pause, 0, pauses.size() - 1) && in(what, 0, 3) ? pauses.get(pause)[what] : -1;
    }

    int set(int what, int n) {
        if (!in(what, 0, 2)) {
            return -1;
        }
        int[][] ranges = {{0, 9}, {1, 9}, {1, 999}};
        if (!in(n, ranges[what][0], ranges[what][1])) {
            return -2;
        }
        int was = settings[what];
        settings[what] = n;
        return was;
    }

    int later(int pause, int now, int one) {
        if (!in(pause, 0, pauses.size() - 1)) {
            return -1;
        }
        if (now < 0 || one < 0 || (long) now + one > 10) {
            return -2;
        }
        pauses.get(pause)[4] = now;
        pauses.get(pause)[5] = one;
        return 1;
    }

    int feed(long w, int n) {
        if (!in(n, 1, 8)) {
            return -2;
        }
        if (tape.length() + n > 120) {
            return -4;
        }
        StringBuilder bytes = new StringBuilder();
        for (int i = 0; i < n; i++) {
            bytes.insert(0, (char) (w >>> (8 * i) & 255));
        }
        tape += bytes;
        return tape.length();
    }

    int law() {
        if (laws.size() == 5) {
            return -4;
        }
        String text = tape;
        tape = "";
        int fault = fault(text);
        if (fault >= 0) {
            return -10 - fault;
        }
        laws.add(text);
        return laws.size() - 1;
    }

    int drawn(int pause, int tick) {
        if (!in(pause, 0, pauses.size() - 1) || laws.isEmpty()) {
            return -1001;
        }
        return in(tick, 0, 39) ? drawnBy(pauses.get(pause), 0, tick) : -1002;
    }

    int demand(int tick) {
        if (laws.isEmpty()) {
            return -10001;
        }
        return in(tick, 0, 39) ? (int) demandOf(tick, new int[8]) : -10002;
    }

    int work(int lag, int power, int store, int cost) {
        if (!in(lag, 0, 9) || !in(power, 1, 99) || !in(store, 1, 40) || !in(cost, 0, 99)) {
            return -2;
        }
        if (works.size() == 5) {
            return -4;
        }
        works.add(new int[] {lag, power, store, cost, 0, 0});
        return works.size() - 1;
    }

    int call(int work, int tick, int n) {
        if (!in(work, 0, works.size() - 1)) {
            return -1;
        }
        if (!in(tick, 0, 39) || !in(n, 0, 40)) {
            return -2;
        }
        works.get(work)[4] = tick;
        works.get(work)[5] = n;
        return ticksOf(works.get(work)) * works.get(work)[3];
    }

    int made(int tick) {
        return in(tick, 0, 39) ? (int) madeBy(works, tick) : -2;
    }

    int costs() {
        return costsOf(works);
    }

    long beat(int tick) {
        return laws.isEmpty() || !in(tick, 0, 39) ? Long.MIN_VALUE : beats(demands(), works, settings[2])[tick];
    }

    int first(int bound) {
        if (laws.isEmpty()) {
            return -1;
        }
        return in(bound, 0, 999) ? firstOf(beats(demands(), works, settings[2]), bound) : -2;
    }

    long wave(int what) {
        if (laws.isEmpty() || !in(what, 0, 2)) {
            return Long.MIN_VALUE;
        }
        long[] beats = beats(demands(), works, settings[2]);
        Arrays.sort(beats);
        return what == 0 ? beats[0] : what == 1 ? beats[39] : beats[39] - beats[0];
    }

    int inertia(int bound) {
        if (laws.isEmpty()) {
            return -1;
        }
        if (!in(bound, 0, 999)) {
            return -2;
        }
        long[] demands = demands();
        int least = -5;
        for (int inertia = 999; inertia >= 1; inertia--) {
            least = firstOf(beats(demands, works, inertia), bound) == -5 ? inertia : least;
        }
        return least;
    }

    int best(int work, int bound, int what) {
        if (!in(work, 0, works.size() - 1) || !in(what, 0, 2) || laws.isEmpty()) {
            return -1;
        }
        if (!in(bound, 0, 999)) {
            return -2;
        }
        long[] demands = demands();
        int[] best = {-5, -5, -5};
        for (int tick = 39; tick >= 0; tick--) {
            for (int n = 20; n >= 1; n--) {
                List<int[]> planned = new ArrayList<>(works);
                int[] own = works.get(work).clone();
                own[4] = tick;
                own[5] = n;
                planned.set(work, own);
                int costs = costsOf(planned);
                if (firstOf(beats(demands, planned, settings[2]), bound) != -5) {
                    continue;
                }
                boolean better = best[2] < 0 || costs < best[2] || costs == best[2] && n <= best[1];
                best = better ? new int[] {tick, n, costs} : best;
            }
        }
        return best[what];
    }

    private long laterCount() {
        return pauses.stream().filter(pause -> pause[4] < 10).count();
    }

    /** Goes through all rows of delays; found: odds that hold, all odds, the least first, its way. */
    private void go(int[] delays, int p, long odds, int bound, long[] found) {
        if (p < pauses.size()) {
            int[] pause = pauses.get(p);
            int[] odd = {pause[4], pause[5], 10 - pause[4] - pause[5]};
            for (int delay = 0; delay < 3; delay++) {
                if (odd[delay] > 0) {
                    delays[p] = delay;
                    go(delays, p + 1, odds * odd[delay], bound, found);
                }
            }
            return;
        }
        int first = firstOf(beats(demands(delays), works, settings[2]), bound);
        found[0] += first == -5 ? odds : 0;
        found[1] += odds;
        if (first != -5 && (found[2] == -5 || first < found[2])) {
            found[2] = first;
            StringBuilder way = new StringBuilder("0");
            for (int i = 0; i < pauses.size(); i++) {
                way.append(delays[i]);
            }
            found[3] = Long.parseLong(way.toString());
        }
    }

    private long[] allWays(int bound) {
        long[] found = {0, 0, -5, -5};
        go(new int[8], 0, 1, bound, found);
        return found;
    }

    long sure(int bound, int part) {
        if (laws.isEmpty() || !in(bound, 0, 999) || !in(part, 0, 1) || laterCount() > 4) {
            return Long.MIN_VALUE;
        }
        long[] found = allWays(bound);
        java.math.BigInteger common = java.math.BigInteger.valueOf(found[0]).gcd(java.math.BigInteger.valueOf(found[1]));
        return found[part] / common.longValue();
    }

    int worst(int bound, int what) {
        if (!in(what, 0, 1) || laws.isEmpty()) {
            return -1;
        }
        if (!in(bound, 0, 999)) {
            return -2;
        }
        return laterCount() > 4 ? -9 : (int) allWays(bound)[2 + what];
    }

    int beside(int work, int r, int m, int bound) {
        if (!in(work, 0, works.size() - 1) || laws.isEmpty()) {
            return -1;
        }
        if (!in(r, 0, 999) || !in(m, 1, 20) || !in(bound, 0, 999)) {
            return -2;
        }
        List<int[]> others = new ArrayList<>(works);
        int[] led = others.remove(work);
        long[] demands = demands();
        long[] beats = new long[40];
        int given = 0;
        for (int t = 0; t < 40; t++) {
            boolean due = false;
            for (int low = 0; low < t; low++) {
                int from = low + 1 + led[0];
                due |= beats[low] < -r && in(t, from, from + m - 1);
            }
            long made = madeBy(others, t);
            if (due && given < led[2]) {
                given++;
                made += led[1];
            }
            beats[t] = (t == 0 ? 0 : beats[t - 1]) + (made - demands[t]) * 10 / settings[2];
        }
        return firstOf(beats, bound);
    }

    int pump(int pump, int k) {
        if (!in(pump, 0, 9) || laws.isEmpty()) {
            return -1;
        }
        if (!in(k, 0, 4)) {
            return -2;
        }
        long[] felt = new long[40];
        System.arraycopy(demands(), 0, felt, pump * k, 40 - pump * k);
        int most = 39;
        for (int t = 39; t >= 0; t--) {
            most = felt[t] >= felt[most] ? t : most;
        }
        return most;
    }

    int row(int n) {
        if (n == -100) {
            row.clear();
            return 0;
        }
        if (!in(n, -99, 999)) {
            return -2;
        }
        if (row.size() == 20) {
            return -4;
        }
        row.add(n);
        return row.size();
    }

    int watched(int tick, int what) {
        if (!in(what, 0, 1) || laws.isEmpty()) {
            return -1;
        }
        if (!in(tick, 0, 39)) {
            return -2;
        }
        int size = 99;
        int least = Integer.MAX_VALUE;
        for (int s = 99; s >= 0; s--) {
            int off = 0;
            for (int t = 0; t < row.size(); t++) {
                off += Math.abs(row.get(t) - drawnBy(new int[] {0, tick, s, 5}, 0, t));
            }
            size = off <= least ? s : size;
            least = Math.min(off, least);
        }
        return what == 0 ? size : least;
    }

    int waits(int a, int b, int what) {
        if (!in(a, 0, pauses.size() - 1) || !in(b, 0, pauses.size() - 1) || !in(what, 0, 1) || laws.isEmpty()) {
            return -1;
        }
        if (a == b) {
            return -2;
        }
        long[] peaks = new long[10];
        for (int delay = 0; delay < 10; delay++) {
            int[] delays = new int[8];
            delays[b] = delay;
            peaks[delay] = Arrays.stream(demands(delays)).max().getAsLong();
        }
        long least = Arrays.stream(peaks).min().getAsLong();
        int wait = 0;
        while (peaks[wait] != least) {
            wait++;
        }
        return what == 0 ? wait : (int) (peaks[0] - least);
    }

    /** Which KIND has the next body of that act, from a KIND on: 10 times the kind's number and the body's place. */
    private int run(int p, int kind, int act, int x) {
        int[][] own = {{1, 2, 3}, {11, 0, 0}, {0, 0, 41}, {0, 21, 0}, {0, 0, 31}, {0, 61, 0}, {51, 0, 0}};
        if (own[kind][act] == 0) {
            return run(p, ABOVE[kind], act, x);
        }
        int[] pause = pauses.get(p);
        bodies.add(own[kind][act]);
        switch (own[kind][act]) {
            case 1: return x + p;
            case 2: return run(p, pause[0], 0, x) - pause[3];
            case 3: return run(p, pause[0], 1, x) * 2;
            case 11: return run(p, 0, 0, x * 3);
            case 21: return -run(p, 0, 1, x);
            case 31: return run(p, 0, 2, x) ^ 7;
            case 41:
                int above = run(p, 1, 2, x - 1);
                return above + run(p, pause[0], 0, 2);
            case 51: return run(p, 1, 0, x) ^ p;
            default: return run(p, 4, 1, x) + pause[3];
        }
    }

    int act(int pause, int act, int x) {
        bodies.clear();
        boolean there = in(pause, 0, pauses.size() - 1) && in(act, 0, 2);
        return there ? run(pause, pauses.get(pause)[0], act, x) : 0;
    }

    int trace(int i) {
        return in(i, 0, Math.min(20, bodies.size()) - 1) ? bodies.get(i) : -1;
    }

    int as(int pause, int k) {
        if (!in(pause, 0, pauses.size() - 1) || !in(k, 0, 6)) {
            return -1;
        }
        for (int kind = pauses.get(pause)[0]; kind >= 0; kind = ABOVE[kind]) {
            if (kind == k) {
                return pauses.get(pause)[3];
            }
        }
        return -6;
    }

    private void take(PlainModel other) {
        pauses = new ArrayList<>();
        other.pauses.forEach(pause -> pauses.add(pause.clone()));
        works = new ArrayList<>();
        other.works.forEach(work -> works.add(work.clone()));
        laws = new ArrayList<>(other.laws);
        row = new ArrayList<>(other.row);
        tape = other.tape;
        settings = other.settings.clone();
    }

    int image() {
        image = new PlainModel();
        image.take(this);
        return pauses.size();
    }

    int undo() {
        if (image == null) {
            return -3;
        }
        take(image);
        return pauses.size();
    }

    int count(int what) {
        int[] counts = {pauses.size(), works.size(), laws.size(), row.size(), tape.length(), bodies.size()};
        return in(what, 0, 5) ? counts[what] : -1;
    }
}
