import java.util.Arrays;

/** Breaks, laws, works and the beat that they make: see README.md and the document's promises. */
public final class KettleBeats {
    public static final int NONE = -1, BAD = -2, STATE = -3, FULL = -4;
    public static final long NO = Long.MIN_VALUE;

    private static final int HOLDS = -5, NO_WAY = -5, OTHER_KIND = -6, TOO_MANY_LATER = -9, LAW_FAULT = -10;
    private static final int NO_DRAWN = -1001, BAD_DRAWN = -1002;
    private static final int NO_DEMAND = -10001, BAD_DEMAND = -10002;

    private static final int TICKS = 40;
    private static final int PAUSES = 8, LAWS = 5, WORKS = 5, TAPE = 120, ROW = 20;
    private static final int BIGGEST = 99, ODDS = 10, DELAYS = 3, LATER_PAUSES = 4;
    private static final int LONGEST_WAIT = 9, LONGEST_PLAN = 20, EMPTY_ROW = -100;
    /** Of the works the one left out, if it is none of them. */
    private static final int NOBODY = -1;

    private static final int COLD = 0, CHANNELS = 1, INERTIA = 2;
    private static final int[] LEAST_SETTINGS = {0, 1, 1}, MOST_SETTINGS = {9, 9, 999};

    private static final int WHISTLE = 1, LATE = 2, SERIAL = 3, SILENT = 4, SKY = 5, SPREAD = 6;

    private final State state = new State();
    private final State image = new State();
    private boolean imageTaken = false;
    private final Trace trace = new Trace();

    // Rows to reckon in: they hold nothing from one call to the next.
    private final int[] demandRow = new int[TICKS];
    private final int[] madeRow = new int[TICKS];
    private final int[] othersRow = new int[TICKS];
    private final int[] dueRow = new int[TICKS];
    private final int[][] drawnRows = new int[PAUSES * DELAYS][TICKS];
    private final int[] delays = new int[PAUSES];

    public KettleBeats() {
    }

    // ---- breaks, laws

    public int pause(int kind, int tick, int size, int v) {
        if (outside(kind, 0, SPREAD)) {
            return NONE;
        }
        if (noTick(tick) || outside(size, 0, BIGGEST) || outside(v, 0, 9)) {
            return BAD;
        }
        if (state.pauseCount >= PAUSES) {
            return FULL;
        }
        int number = state.pauseCount;
        state.pauses[number] = newPause(number, kind, tick, size, v);
        state.oddsNow[number] = ODDS;
        state.oddsOne[number] = 0;
        state.pauseCount++;
        return number;
    }

    public int of(int pause, int what) {
        if (noPause(pause)) {
            return NONE;
        }
        Pause asked = state.pauses[pause];
        switch (what) {
            case 0: return asked.kind;
            case 1: return asked.tick;
            case 2: return asked.size;
            case 3: return asked.v;
            default: return NONE;
        }
    }

    public int set(int what, int n) {
        if (outside(what, 0, state.settings.length - 1)) {
            return NONE;
        }
        if (outside(n, LEAST_SETTINGS[what], MOST_SETTINGS[what])) {
            return BAD;
        }
        int was = state.settings[what];
        state.settings[what] = n;
        return was;
    }

    public int later(int pause, int now, int one) {
        if (noPause(pause)) {
            return NONE;
        }
        if (outside(now, 0, ODDS) || outside(one, 0, ODDS) || now + one > ODDS) {
            return BAD;
        }
        state.oddsNow[pause] = now;
        state.oddsOne[pause] = one;
        return 1;
    }

    public int feed(long w, int n) {
        if (outside(n, 1, 8)) {
            return BAD;
        }
        if (state.tapeSize + n > TAPE) {
            return FULL;
        }
        for (int i = n - 1; i >= 0; i--) {
            state.tape[state.tapeSize] = (byte) (w >> (8 * i));
            state.tapeSize++;
        }
        return state.tapeSize;
    }

    public int law() {
        if (state.lawCount >= LAWS) {
            return FULL;
        }
        Law read = new Law(Arrays.copyOf(state.tape, state.tapeSize));
        state.tapeSize = 0;
        if (!read.whole) {
            return LAW_FAULT - read.at;
        }
        state.laws[state.lawCount] = read;
        state.lawCount++;
        return state.lawCount - 1;
    }

    public int drawn(int pause, int tick) {
        if (noPause(pause) || noLaw()) {
            return NO_DRAWN;
        }
        if (noTick(tick)) {
            return BAD_DRAWN;
        }
        Pause drawer = state.pauses[pause];
        return drawer.drawnAt(state, drawer.ageAt(tick, 0), tick);
    }

    public int demand(int tick) {
        if (noLaw()) {
            return NO_DEMAND;
        }
        if (noTick(tick)) {
            return BAD_DEMAND;
        }
        return demandAt(tick);
    }

    // ---- works, the beat

    public int work(int lag, int power, int store, int cost) {
        if (outside(lag, 0, 9) || outside(power, 1, 99) || outside(store, 1, 40) || outside(cost, 0, 99)) {
            return BAD;
        }
        if (state.workCount >= WORKS) {
            return FULL;
        }
        state.works[state.workCount] = new Work(lag, power, store, cost, 0, 0);
        state.workCount++;
        return state.workCount - 1;
    }

    public int call(int work, int tick, int n) {
        if (noWork(work)) {
            return NONE;
        }
        if (noTick(tick) || outside(n, 0, 40)) {
            return BAD;
        }
        Work idle = state.works[work];
        Work called = new Work(idle.lag, idle.power, idle.store, idle.cost, tick, n);
        state.works[work] = called;
        return called.price(n);
    }

    public int made(int tick) {
        return noTick(tick) ? BAD : madeAt(tick, NOBODY);
    }

    public int costs() {
        return costsBut(NOBODY);
    }

    public long beat(int tick) {
        if (noLaw() || noTick(tick)) {
            return NO;
        }
        layDemand();
        layMade(madeRow, NOBODY);
        int beat = 0;
        for (int t = 0; t <= tick; t++) {
            beat += pushAt(t, state.settings[INERTIA]);
        }
        return beat;
    }

    public int first(int bound) {
        if (noLaw()) {
            return NONE;
        }
        if (noBound(bound)) {
            return BAD;
        }
        layDemand();
        layMade(madeRow, NOBODY);
        return firstBeyond(bound, state.settings[INERTIA]);
    }

    public long wave(int what) {
        if (noLaw() || outside(what, 0, 2)) {
            return NO;
        }
        layDemand();
        layMade(madeRow, NOBODY);
        int beat = pushAt(0, state.settings[INERTIA]);
        int lowest = beat;
        int highest = beat;
        for (int t = 1; t < TICKS; t++) {
            beat += pushAt(t, state.settings[INERTIA]);
            lowest = Math.min(lowest, beat);
            highest = Math.max(highest, beat);
        }
        switch (what) {
            case 0: return lowest;
            case 1: return highest;
            default: return highest - lowest;
        }
    }

    public int inertia(int bound) {
        if (noLaw()) {
            return NONE;
        }
        if (noBound(bound)) {
            return BAD;
        }
        layDemand();
        layMade(madeRow, NOBODY);
        for (int inertia = LEAST_SETTINGS[INERTIA]; inertia <= MOST_SETTINGS[INERTIA]; inertia++) {
            if (firstBeyond(bound, inertia) == HOLDS) {
                return inertia;
            }
        }
        return NO_WAY;
    }

    public int best(int work, int bound, int what) {
        if (noWork(work) || outside(what, 0, 2) || noLaw()) {
            return NONE;
        }
        if (noBound(bound)) {
            return BAD;
        }
        layDemand();
        layMade(othersRow, work);
        int plan = bestPlan(state.works[work], bound);
        if (plan == NO_WAY) {
            return NO_WAY;
        }
        switch (what) {
            case 0: return plan % TICKS;
            case 1: return plan / TICKS;
            default: return costsBut(work) + state.works[work].price(plan / TICKS);
        }
    }

    // ---- what may be

    public long sure(int bound, int part) {
        if (noLaw() || noBound(bound) || outside(part, 0, 1) || laterPauses() > LATER_PAUSES) {
            return NO;
        }
        layMade(madeRow, NOBODY);
        layDrawn();
        long holding = 0;
        long all = 0;
        int ways = countWays();
        for (int way = 0; way < ways; way++) {
            int odds = takeWay(way);
            all += odds;
            if (odds > 0 && firstOfWay(bound) == HOLDS) {
                holding += odds;
            }
        }
        long common = Math.max(1, commonDivisor(all, holding));
        return part == 0 ? holding / common : all / common;
    }

    public int worst(int bound, int what) {
        if (outside(what, 0, 1) || noLaw()) {
            return NONE;
        }
        if (noBound(bound)) {
            return BAD;
        }
        if (laterPauses() > LATER_PAUSES) {
            return TOO_MANY_LATER;
        }
        layMade(madeRow, NOBODY);
        layDrawn();
        int earliest = HOLDS;
        int worstWay = NO_WAY;
        int ways = countWays();
        for (int way = 0; way < ways; way++) {
            int first = takeWay(way) > 0 ? firstOfWay(bound) : HOLDS;
            if (first != HOLDS && (earliest == HOLDS || first < earliest)) {
                earliest = first;
                worstWay = delaysAsDigits();
            }
        }
        return what == 0 ? earliest : worstWay;
    }

    public int beside(int work, int r, int m, int bound) {
        if (noWork(work) || noLaw()) {
            return NONE;
        }
        if (outside(r, 0, 999) || outside(m, 1, 20) || noBound(bound)) {
            return BAD;
        }
        layDemand();
        layMade(othersRow, work);
        return firstByRule(state.works[work], r, m, bound);
    }

    // ---- pumps, rows, waiting

    public int pump(int pump, int k) {
        if (outside(pump, 0, 9) || noLaw()) {
            return NONE;
        }
        if (outside(k, 0, 4)) {
            return BAD;
        }
        layDemand();
        int behind = pump * k;
        int mostAt = 0;
        int most = demandBefore(0, behind);
        for (int t = 1; t < TICKS; t++) {
            int felt = demandBefore(t, behind);
            if (felt > most) {
                most = felt;
                mostAt = t;
            }
        }
        return mostAt;
    }

    public int row(int n) {
        if (n == EMPTY_ROW) {
            state.rowSize = 0;
            return 0;
        }
        if (outside(n, -99, 999)) {
            return BAD;
        }
        if (state.rowSize >= ROW) {
            return FULL;
        }
        state.row[state.rowSize] = n;
        state.rowSize++;
        return state.rowSize;
    }

    public int watched(int tick, int what) {
        if (outside(what, 0, 1) || noLaw()) {
            return NONE;
        }
        if (noTick(tick)) {
            return BAD;
        }
        int size = 0;
        int least = offRow(0, tick);
        for (int s = 1; s <= BIGGEST; s++) {
            int off = offRow(s, tick);
            if (off < least) {
                least = off;
                size = s;
            }
        }
        return what == 0 ? size : least;
    }

    public int waits(int a, int b, int what) {
        if (noPause(a) || noPause(b) || outside(what, 0, 1) || noLaw()) {
            return NONE;
        }
        if (a == b) {
            return BAD;
        }
        layDemand();
        layDrawnBy(state.pauses[b], 0, drawnRows[0]);
        int atOnce = peakWith(state.pauses[b], 0);
        int wait = 0;
        int least = atOnce;
        for (int delay = 1; delay <= LONGEST_WAIT; delay++) {
            int peak = peakWith(state.pauses[b], delay);
            if (peak < least) {
                least = peak;
                wait = delay;
            }
        }
        return what == 0 ? wait : atOnce - least;
    }

    // ---- acts, the image

    public int act(int pause, int act, int x) {
        trace.ran = 0;
        if (noPause(pause)) {
            return 0;
        }
        Pause actor = state.pauses[pause];
        switch (act) {
            case 0: return actor.draws(x, trace);
            case 1: return actor.rises(x, trace);
            case 2: return actor.tells(x, trace);
            default: return 0;
        }
    }

    public int trace(int i) {
        return i < 0 || i >= trace.ran || i >= trace.bodies.length ? NONE : trace.bodies[i];
    }

    public int as(int pause, int k) {
        if (noPause(pause) || outside(k, 0, SPREAD)) {
            return NONE;
        }
        Pause asked = state.pauses[pause];
        return isOfKind(asked, k) ? asked.v : OTHER_KIND;
    }

    public int image() {
        image.copyFrom(state);
        imageTaken = true;
        return state.pauseCount;
    }

    public int undo() {
        if (!imageTaken) {
            return STATE;
        }
        state.copyFrom(image);
        return state.pauseCount;
    }

    public int count(int what) {
        switch (what) {
            case 0: return state.pauseCount;
            case 1: return state.workCount;
            case 2: return state.lawCount;
            case 3: return state.rowSize;
            case 4: return state.tapeSize;
            case 5: return trace.ran;
            default: return NONE;
        }
    }

    // ---- what is refused

    private static boolean outside(int n, int least, int most) {
        return n < least || n > most;
    }

    private static boolean noTick(int tick) {
        return outside(tick, 0, TICKS - 1);
    }

    private static boolean noBound(int bound) {
        return outside(bound, 0, 999);
    }

    private boolean noPause(int pause) {
        return outside(pause, 0, state.pauseCount - 1);
    }

    private boolean noWork(int work) {
        return outside(work, 0, state.workCount - 1);
    }

    private boolean noLaw() {
        return state.lawCount == 0;
    }

    // ---- kinds

    private static Pause newPause(int number, int kind, int tick, int size, int v) {
        switch (kind) {
            case WHISTLE: return new Whistle(number, kind, tick, size, v);
            case LATE: return new Late(number, kind, tick, size, v);
            case SERIAL: return new Serial(number, kind, tick, size, v);
            case SILENT: return new Silent(number, kind, tick, size, v);
            case SKY: return new Sky(number, kind, tick, size, v);
            case SPREAD: return new Spread(number, kind, tick, size, v);
            default: return new Pause(number, kind, tick, size, v);
        }
    }

    private static boolean isOfKind(Pause asked, int kind) {
        switch (kind) {
            case WHISTLE: return asked instanceof Whistle;
            case LATE: return asked instanceof Late;
            case SERIAL: return asked instanceof Serial;
            case SILENT: return asked instanceof Silent;
            case SKY: return asked instanceof Sky;
            case SPREAD: return asked instanceof Spread;
            default: return true;
        }
    }

    // ---- what is drawn, what is made

    private int demandAt(int tick) {
        int sum = 0;
        for (int p = 0; p < state.pauseCount; p++) {
            Pause drawer = state.pauses[p];
            sum += drawer.drawnAt(state, drawer.ageAt(tick, 0), tick);
        }
        return sum;
    }

    private int demandBefore(int tick, int behind) {
        return tick < behind ? 0 : demandRow[tick - behind];
    }

    private int madeAt(int tick, int leftOut) {
        int sum = 0;
        for (int w = 0; w < state.workCount; w++) {
            if (w != leftOut) {
                sum += state.works[w].givesAt(tick);
            }
        }
        return sum;
    }

    private int costsBut(int leftOut) {
        int sum = 0;
        for (int w = 0; w < state.workCount; w++) {
            if (w != leftOut) {
                sum += state.works[w].price(state.works[w].called);
            }
        }
        return sum;
    }

    private void layDemand() {
        for (int t = 0; t < TICKS; t++) {
            demandRow[t] = demandAt(t);
        }
    }

    private void layMade(int[] row, int leftOut) {
        for (int t = 0; t < TICKS; t++) {
            row[t] = madeAt(t, leftOut);
        }
    }

    // ---- the beat

    /** What the beat gains behind a tick, by the rows as they lie. */
    private int pushAt(int tick, int inertia) {
        return (madeRow[tick] - demandRow[tick]) * 10 / Math.max(1, inertia);
    }

    private int firstBeyond(int bound, int inertia) {
        int beat = 0;
        for (int t = 0; t < TICKS; t++) {
            beat += pushAt(t, inertia);
            if (Math.abs(beat) > bound) {
                return t;
            }
        }
        return HOLDS;
    }

    /** The best plan as n times TICKS and the tick, or NO_WAY. */
    private int bestPlan(Work planned, int bound) {
        // Costs never fall as n grows, so the first plan found is the best one; past the store n changes nothing.
        int longest = Math.min(LONGEST_PLAN, planned.store);
        for (int n = 1; n <= longest; n++) {
            for (int from = 0; from < TICKS; from++) {
                layPlan(planned, from, n);
                if (firstBeyond(bound, state.settings[INERTIA]) == HOLDS) {
                    return n * TICKS + from;
                }
            }
        }
        return NO_WAY;
    }

    private void layPlan(Work planned, int from, int n) {
        for (int t = 0; t < TICKS; t++) {
            madeRow[t] = othersRow[t] + planned.wouldGive(from, n, t);
        }
    }

    private int firstByRule(Work led, int r, int m, int bound) {
        Arrays.fill(dueRow, 0);
        int left = led.store;
        int beat = 0;
        for (int t = 0; t < TICKS; t++) {
            boolean gives = dueRow[t] != 0 && left > 0;
            left -= gives ? 1 : 0;
            madeRow[t] = othersRow[t] + (gives ? led.power : 0);
            beat += pushAt(t, state.settings[INERTIA]);
            if (Math.abs(beat) > bound) {
                return t;
            }
            if (beat < -r) {
                markDue(t + 1 + led.lag, m);
            }
        }
        return HOLDS;
    }

    private void markDue(int from, int n) {
        int end = Math.min(TICKS, from + n);
        for (int t = from; t < end; t++) {
            dueRow[t] = 1;
        }
    }

    // ---- breaks that may come later

    private boolean mayBeLater(int pause) {
        return state.oddsNow[pause] < ODDS;
    }

    private int laterPauses() {
        int sum = 0;
        for (int p = 0; p < state.pauseCount; p++) {
            sum += mayBeLater(p) ? 1 : 0;
        }
        return sum;
    }

    private int countWays() {
        int ways = 1;
        for (int p = 0; p < state.pauseCount; p++) {
            ways *= mayBeLater(p) ? DELAYS : 1;
        }
        return ways;
    }

    private int oddsOf(int pause, int delay) {
        int now = state.oddsNow[pause];
        int one = state.oddsOne[pause];
        switch (delay) {
            case 0: return now;
            case 1: return one;
            default: return ODDS - now - one;
        }
    }

    private void layDrawn() {
        for (int p = 0; p < state.pauseCount; p++) {
            int all = mayBeLater(p) ? DELAYS : 1;
            for (int delay = 0; delay < all; delay++) {
                layDrawnBy(state.pauses[p], delay, drawnRows[p * DELAYS + delay]);
            }
        }
    }

    private void layDrawnBy(Pause drawer, int delay, int[] row) {
        for (int t = 0; t < TICKS; t++) {
            row[t] = drawer.drawnAt(state, drawer.ageAt(t, delay), t);
        }
    }

    /** Sets the delays to the way of that number, counted as rows are ordered, and tells its odds. */
    private int takeWay(int way) {
        int rest = way;
        int odds = 1;
        for (int p = state.pauseCount - 1; p >= 0; p--) {
            delays[p] = 0;
            if (mayBeLater(p)) {
                delays[p] = rest % DELAYS;
                rest /= DELAYS;
                odds *= oddsOf(p, delays[p]);
            }
        }
        return odds;
    }

    private int firstOfWay(int bound) {
        for (int t = 0; t < TICKS; t++) {
            int sum = 0;
            for (int p = 0; p < state.pauseCount; p++) {
                sum += drawnRows[p * DELAYS + delays[p]][t];
            }
            demandRow[t] = sum;
        }
        return firstBeyond(bound, state.settings[INERTIA]);
    }

    private int delaysAsDigits() {
        int digits = 0;
        for (int p = 0; p < state.pauseCount; p++) {
            digits = digits * 10 + delays[p];
        }
        return digits;
    }

    private static long commonDivisor(long a, long b) {
        long high = a;
        long low = b;
        for (int i = 0; i < 100 && low != 0; i++) {
            long rest = high % low;
            high = low;
            low = rest;
        }
        return high;
    }

    // ---- rows, waiting

    /** How far the row is off, all told, what a BREAK of that size at that tick would draw. */
    private int offRow(int size, int tick) {
        int sum = 0;
        for (int t = 0; t < state.rowSize; t++) {
            sum += Math.abs(state.row[t] - state.plain(size, 0, t - tick, t));
        }
        return sum;
    }

    /** The greatest demand if, of all in demandRow, the one in drawnRows[0] came that much later. */
    private int peakWith(Pause waiting, int delay) {
        layDrawnBy(waiting, delay, drawnRows[1]);
        int peak = demandRow[0] - drawnRows[0][0] + drawnRows[1][0];
        for (int t = 1; t < TICKS; t++) {
            peak = Math.max(peak, demandRow[t] - drawnRows[0][t] + drawnRows[1][t]);
        }
        return peak;
    }

    /** All that THE IMAGE holds. Breaks, laws and works never change, so both states may hold the same ones. */
    private static final class State {
        final Pause[] pauses = new Pause[PAUSES];
        final int[] oddsNow = new int[PAUSES];
        final int[] oddsOne = new int[PAUSES];
        int pauseCount = 0;
        final Law[] laws = new Law[LAWS];
        int lawCount = 0;
        final Work[] works = new Work[WORKS];
        int workCount = 0;
        final byte[] tape = new byte[TAPE];
        int tapeSize = 0;
        final int[] row = new int[ROW];
        int rowSize = 0;
        final int[] settings = {0, 1, 100};

        void copyFrom(State other) {
            for (int p = 0; p < PAUSES; p++) {
                pauses[p] = other.pauses[p];
                oddsNow[p] = other.oddsNow[p];
                oddsOne[p] = other.oddsOne[p];
            }
            pauseCount = other.pauseCount;
            for (int i = 0; i < LAWS; i++) {
                laws[i] = other.laws[i];
            }
            lawCount = other.lawCount;
            for (int w = 0; w < WORKS; w++) {
                works[w] = other.works[w];
            }
            workCount = other.workCount;
            System.arraycopy(other.tape, 0, tape, 0, TAPE);
            tapeSize = other.tapeSize;
            System.arraycopy(other.row, 0, row, 0, ROW);
            rowSize = other.rowSize;
            System.arraycopy(other.settings, 0, settings, 0, settings.length);
        }

        int heads(int size) {
            return size / Math.max(1, settings[CHANNELS]);
        }

        Law newestLaw() {
            return lawCount == 0 ? null : laws[lawCount - 1];
        }

        int percent(int size, int kind, int age, int tick) {
            Law law = newestLaw();
            return law == null ? 0 : law.percent(age, settings[COLD], size, kind, tick);
        }

        int plain(int size, int kind, int age, int tick) {
            Law law = newestLaw();
            if (law == null || age < 0) {
                return 0;
            }
            int full = heads(size) * law.percent(age, settings[COLD], size, kind, tick) / 100;
            return Math.min(full, law.most);
        }
    }

    /** A work with its latest call. */
    private static final class Work {
        final int lag;
        final int power;
        final int store;
        final int cost;
        final int from;
        final int called;

        Work(int lag, int power, int store, int cost, int from, int called) {
            this.lag = lag;
            this.power = power;
            this.store = store;
            this.cost = cost;
            this.from = from;
            this.called = called;
        }

        int price(int n) {
            return Math.min(n, store) * cost;
        }

        int wouldGive(int tick, int n, int at) {
            int start = tick + lag;
            return at >= start && at < start + Math.min(n, store) ? power : 0;
        }

        int givesAt(int tick) {
            return wouldGive(from, called, tick);
        }
    }

    /** The bodies that ran in the latest act. */
    private static final class Trace {
        final int[] bodies = new int[20];
        int ran = 0;

        void note(int body) {
            if (ran < bodies.length) {
                bodies[ran] = body;
            }
            ran++;
        }
    }

    /** A BREAK of the document, and of its kind 0; 'break' is Java's own word. */
    private static class Pause {
        final int number;
        final int kind;
        final int tick;
        final int size;
        final int v;

        Pause(int number, int kind, int tick, int size, int v) {
            this.number = number;
            this.kind = kind;
            this.tick = tick;
            this.size = size;
            this.v = v;
        }

        int ageAt(int at, int delay) {
            return at - tick - delay;
        }

        int drawnAt(State state, int age, int at) {
            return state.plain(size, kind, age, at);
        }

        int draws(int x, Trace trace) {
            trace.note(1);
            return x + number;
        }

        int rises(int x, Trace trace) {
            trace.note(2);
            return draws(x, trace) - v;
        }

        int tells(int x, Trace trace) {
            trace.note(3);
            return rises(x, trace) * 2;
        }
    }

    private static class Whistle extends Pause {
        Whistle(int number, int kind, int tick, int size, int v) {
            super(number, kind, tick, size, v);
        }

        int draws(int x, Trace trace) {
            trace.note(11);
            return super.draws(x * 3, trace);
        }
    }

    private static final class Late extends Whistle {
        Late(int number, int kind, int tick, int size, int v) {
            super(number, kind, tick, size, v);
        }

        int drawnAt(State state, int age, int at) {
            return state.plain(size, kind, age - v, at);
        }

        int tells(int x, Trace trace) {
            trace.note(41);
            return super.tells(x - 1, trace) + draws(2, trace);
        }
    }

    private static final class Spread extends Whistle {
        Spread(int number, int kind, int tick, int size, int v) {
            super(number, kind, tick, size, v);
        }

        int drawnAt(State state, int age, int at) {
            return state.plain(size, kind, age, at) / 2 + state.plain(size, kind, age - v, at - v) / 2;
        }

        int draws(int x, Trace trace) {
            trace.note(51);
            return super.draws(x, trace) ^ number;
        }
    }

    private static final class Serial extends Pause {
        Serial(int number, int kind, int tick, int size, int v) {
            super(number, kind, tick, size, v);
        }

        int drawnAt(State state, int age, int at) {
            boolean drawing = age >= 0 && state.percent(size, kind, age, at) > 0;
            return state.plain(size, kind, age, at) + (drawing ? v : 0);
        }

        int rises(int x, Trace trace) {
            trace.note(21);
            return -super.rises(x, trace);
        }
    }

    private static class Silent extends Pause {
        Silent(int number, int kind, int tick, int size, int v) {
            super(number, kind, tick, size, v);
        }

        int drawnAt(State state, int age, int at) {
            return age >= 0 && age < v ? drawnAhead(state) : state.plain(size, kind, age - v, at);
        }

        int drawnAhead(State state) {
            return -state.heads(size);
        }

        int tells(int x, Trace trace) {
            trace.note(31);
            return super.tells(x, trace) ^ 7;
        }
    }

    private static final class Sky extends Silent {
        Sky(int number, int kind, int tick, int size, int v) {
            super(number, kind, tick, size, v);
        }

        int drawnAhead(State state) {
            return state.heads(size);
        }

        int rises(int x, Trace trace) {
            trace.note(61);
            return super.rises(x, trace) + v;
        }
    }

    /** A LAW as read from its text: of each draw and ease the n and, as postfix code, the E. */
    private static final class Law {
        private static final int CLAUSES = 8, OPEN = 5;
        private static final int AND = -1, OR = -2, NOT = -3;
        private static final String SUBJECTS = "acskt", SIGNS = "<=>";

        private final byte[] text;
        /** Where the reading stands, and stays: if the text is no law, at the fault. */
        int at = 0;
        final boolean whole;
        int most = 999;
        private final int[] weights = new int[CLAUSES];
        private final int[] ends = new int[CLAUSES];
        private int weighed = 0;
        private final int[] code;
        private int codeSize = 0;
        private final int[] values = new int[5];

        Law(byte[] text) {
            this.text = text;
            // Each step of the code stems from a byte of its own at least.
            code = new int[text.length];
            boolean reads = clause();
            for (int i = 1; i < CLAUSES && reads && at < text.length; i++) {
                reads = take(';') && clause();
            }
            whole = reads && at == text.length;
        }

        int percent(int age, int cold, int size, int kind, int tick) {
            values[0] = age;
            values[1] = cold;
            values[2] = size;
            values[3] = kind;
            values[4] = tick;
            int sum = 0;
            int from = 0;
            for (int i = 0; i < weighed; i++) {
                sum += codeHolds(from, ends[i]) ? weights[i] : 0;
                from = ends[i];
            }
            return Math.max(0, sum);
        }

        /** The low bit of the stack is its top; it is never deeper than some two for each that is open. */
        private boolean codeHolds(int from, int end) {
            int stack = 0;
            for (int i = from; i < end; i++) {
                int top = stack & 1;
                int below = stack >> 1;
                switch (code[i]) {
                    case NOT: stack ^= 1; break;
                    case AND: stack = top == 1 ? below : below & ~1; break;
                    case OR: stack = below | top; break;
                    default: stack = stack << 1 | (testHolds(code[i]) ? 1 : 0); break;
                }
            }
            return (stack & 1) == 1;
        }

        private boolean testHolds(int test) {
            int value = values[test / 3000];
            int n = test % 1000;
            switch (test / 1000 % 3) {
                case 0: return value < n;
                case 1: return value == n;
                default: return value > n;
            }
        }

        private boolean clause() {
            if (next('m')) {
                return word("most ") && mostNumber();
            }
            boolean eases = next('e');
            if (!word(eases ? "ease " : "draw ")) {
                return false;
            }
            int n = number();
            if (n < 0 || !take(' ') || !expression(0) || weighed >= CLAUSES) {
                return false;
            }
            weights[weighed] = eases ? -n : n;
            ends[weighed] = codeSize;
            weighed++;
            return true;
        }

        private boolean mostNumber() {
            int n = number();
            if (n < 0) {
                return false;
            }
            most = n;
            return true;
        }

        private boolean expression(int open) {
            boolean reads = term(open);
            for (int i = 0; i < text.length && reads && take('|'); i++) {
                reads = term(open) && emit(OR);
            }
            return reads;
        }

        private boolean term(int open) {
            boolean reads = factor(open);
            for (int i = 0; i < text.length && reads && take('&'); i++) {
                reads = factor(open) && emit(AND);
            }
            return reads;
        }

        private boolean factor(int open) {
            if (!next('!') && !next('(')) {
                return test();
            }
            if (open >= OPEN) {
                return false;
            }
            if (take('!')) {
                return factor(open + 1) && emit(NOT);
            }
            return take('(') && expression(open + 1) && take(')');
        }

        private boolean test() {
            int subject = oneOf(SUBJECTS);
            int sign = subject < 0 ? -1 : oneOf(SIGNS);
            int n = sign < 0 ? -1 : number();
            return n >= 0 && emit((subject * 3 + sign) * 1000 + n);
        }

        /** -1 if there is none. A digit too many is left for what follows, which can't take it. */
        private int number() {
            int n = -1;
            for (int digits = 0; digits < 3 && n != 0 && at < text.length; digits++) {
                int digit = text[at] - '0';
                if (digit < 0 || digit > 9) {
                    return n;
                }
                n = Math.max(0, n) * 10 + digit;
                at++;
            }
            return n;
        }

        private boolean word(String signs) {
            for (int i = 0; i < signs.length(); i++) {
                if (!take(signs.charAt(i))) {
                    return false;
                }
            }
            return true;
        }

        private int oneOf(String signs) {
            int place = at < text.length ? signs.indexOf((char) (text[at] & 255)) : -1;
            at += place < 0 ? 0 : 1;
            return place;
        }

        private boolean next(char sign) {
            return at < text.length && text[at] == sign;
        }

        private boolean take(char sign) {
            boolean there = next(sign);
            at += there ? 1 : 0;
            return there;
        }

        private boolean emit(int step) {
            if (codeSize >= code.length) {
                return false;
            }
            code[codeSize] = step;
            codeSize++;
            return true;
        }
    }
}
