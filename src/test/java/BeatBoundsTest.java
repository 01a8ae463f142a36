/** What bounds the document's part 2 names: of works, of the beat, of what may be later, of a rule. Sentence by sentence. */
public final class BeatBoundsTest {
    private static final int NONE = KettleBeats.NONE, BAD = KettleBeats.BAD, FULL = KettleBeats.FULL;
    private static final long NO = KettleBeats.NO;
    private static final String AT_ONCE = "draw 100 a=0", TEN_TIMES = "draw 999 a=0;draw 999 a=0";

    private BeatBoundsTest() {
    }

    public static void main(String[] args) {
        fiveWorks();
        worksNumbers();
        notCalledAtFirst();
        calledFromAndFor();
        lagAndStore();
        beyondTheLastTick();
        madeAndCostsOfAll();
        beatFromZero();
        beatIsCutTowardsZero();
        inertiaOneToMost();
        bounds();
        firstTick();
        leastInertia();
        bestTick();
        bestNumber();
        bestCosts();
        bestOfSeveral();
        lowestAndHighest();
        oddsAtFirst();
        oddsOfTen();
        fourMayBeLater();
        allElseAtItsTick();
        sureInLowestTerms();
        sureOfEight();
        worstOfSeveral();
        worstOfEight();
        worstHolds();
        laterAtEachTick();
        ruleBelow();
        ruleForTicks();
        ruleLag();
        ruleStore();
        ruleInsteadOfItsCall();
        besideFirst();
        askedFirstOfAll();
        Checks.close();
    }

    private static void due(String call, long got, long want) {
        Checks.due(call, got, want);
    }

    /** THE BEAT gains MADE less DEMAND behind each tick: its INERTIA is 10. */
    private static KettleBeats plainBeat(String law) {
        KettleBeats x = Checks.withLaw(law);
        due("inertia was", x.set(2, 10), 100);
        return x;
    }

    /** POWER at all ticks from one to another (not with it), 0 at all others. */
    private static void gives(String what, KettleBeats x, int power, int from, int to) {
        for (int t = 0; t < 40; t++) {
            due(what + ", made at " + t, x.made(t), t >= from && t < to ? power : 0);
        }
    }

    // ---- "WORKS are numbered from 0 on, 5 at most"

    private static void fiveWorks() {
        KettleBeats x = new KettleBeats();
        due("no work", x.count(1), 0);
        due("a call of none", x.call(0, 0, 0), NONE);
        for (int i = 0; i < 5; i++) {
            due("a work's number", x.work(0, 1 << i, 40, 1), i);
            due("how many works", x.count(1), i + 1);
            due("a call of it", x.call(i, i, 3), 3);
            due("a call of the one behind it", x.call(i + 1, 0, 0), NONE);
        }
        due("a sixth work", x.work(0, 99, 40, 99), FULL);
        due("five works", x.count(1), 5);
        due("costs of five", x.costs(), 15);
        due("made by three", x.made(2), 7);
        due("made by three", x.made(4), 28);
        due("made by the fifth", x.made(6), 16);
    }

    // ---- "a LAG (0 .. 9 TICKS), a POWER (1 .. 99), a STORE (.., 1 .. 40), a COST of each TICK (0 .. 99)"

    private static void worksNumbers() {
        int[][] rows = {{-1, 1, 1, 0}, {10, 1, 1, 0}, {0, 0, 1, 0}, {0, 100, 1, 0}, {0, -1, 1, 0}, {0, 1, 0, 0}, {0, 1, 41, 0}, {0, 1, -1, 0}, {0, 1, 1, -1}, {0, 1, 1, 100}};
        for (int[] row : rows) {
            KettleBeats x = new KettleBeats();
            due("work " + row[0] + ", " + row[1] + ", " + row[2] + ", " + row[3], x.work(row[0], row[1], row[2], row[3]), BAD);
            due("no work of it", x.count(1), 0);
        }
        KettleBeats least = new KettleBeats();
        due("the least work", least.work(0, 1, 1, 0), 0);
        due("costs nothing", least.call(0, 5, 40), 0);
        gives("the least work", least, 1, 5, 6);
        KettleBeats most = new KettleBeats();
        due("the most work", most.work(9, 99, 40, 99), 0);
        due("costs", most.call(0, 0, 40), 3960);
        gives("the most work", most, 99, 9, 40);
    }

    // ---- "CALLED from a TICK (0 .. 39) on for n TICKS (0 .. 40; 0 from 0 on at first)"

    private static void notCalledAtFirst() {
        KettleBeats x = new KettleBeats();
        due("costs of no work", x.costs(), 0);
        gives("no work", x, 0, 0, 0);
        x.work(0, 50, 40, 9);
        due("costs at first", x.costs(), 0);
        gives("at first", x, 0, 0, 0);
    }

    private static void calledFromAndFor() {
        KettleBeats x = new KettleBeats();
        x.work(0, 50, 40, 2);
        due("from 0 for 40", x.call(0, 0, 40), 80);
        gives("from 0 for 40", x, 50, 0, 40);
        due("from 0 for 39", x.call(0, 0, 39), 78);
        gives("from 0 for 39", x, 50, 0, 39);
        due("from 0 for 1", x.call(0, 0, 1), 2);
        gives("from 0 for 1", x, 50, 0, 1);
        due("from 0 for 0", x.call(0, 0, 0), 0);
        gives("from 0 for 0", x, 0, 0, 0);
        due("from 39 for 1", x.call(0, 39, 1), 2);
        gives("from 39 for 1", x, 50, 39, 40);
        due("from 20 for 7", x.call(0, 20, 7), 14);
        gives("from 20 for 7", x, 50, 20, 27);
        due("from -1", x.call(0, -1, 9), BAD);
        due("from 40", x.call(0, 40, 9), BAD);
        due("for -1", x.call(0, 9, -1), BAD);
        due("for 41", x.call(0, 9, 41), BAD);
        gives("as it was called", x, 50, 20, 27);
        due("costs as it was called", x.costs(), 14);
    }

    // ---- "it gives POWER from LAG behind that TICK on for n TICKS, or STORE, if that is less"

    private static void lagAndStore() {
        for (int lag = 0; lag <= 9; lag++) {
            KettleBeats x = new KettleBeats();
            x.work(lag, 30, 5, 1);
            due("fewer than the store", x.call(0, 10, 4), 4);
            gives("fewer than the store, lag " + lag, x, 30, 10 + lag, 14 + lag);
            due("as many", x.call(0, 10, 5), 5);
            gives("as many as the store, lag " + lag, x, 30, 10 + lag, 15 + lag);
            due("more than the store", x.call(0, 10, 6), 5);
            gives("more than the store, lag " + lag, x, 30, 10 + lag, 15 + lag);
            due("from 0 on", x.call(0, 0, 40), 5);
            gives("from 0 on, lag " + lag, x, 30, lag, 5 + lag);
        }
    }

    // ---- "(also beyond TICK 39, which is not seen, but costs)"

    private static void beyondTheLastTick() {
        KettleBeats x = new KettleBeats();
        x.work(9, 30, 6, 7);
        due("seen at 39 alone", x.call(0, 30, 6), 42);
        gives("seen at 39 alone", x, 30, 39, 40);
        due("not seen", x.call(0, 31, 6), 42);
        gives("not seen", x, 0, 0, 0);
        due("costs", x.costs(), 42);
        due("not seen, for 40", x.call(0, 39, 40), 42);
        gives("not seen, for 40", x, 0, 0, 0);
        KettleBeats y = new KettleBeats();
        y.work(0, 30, 40, 7);
        due("one of 40", y.call(0, 39, 40), 280);
        gives("one of 40", y, 30, 39, 40);
    }

    // ---- "MADE at a TICK: of all WORKS, together. COSTS: of all WORKS TICKS that they give times COST."

    private static void madeAndCostsOfAll() {
        KettleBeats x = new KettleBeats();
        for (int i = 0; i < 5; i++) {
            x.work(0, 99, 40, 99);
            due("a call", x.call(i, 39, 40), 3960);
            due("costs of " + (i + 1), x.costs(), 3960 * (i + 1));
            due("made by " + (i + 1), x.made(39), 99 * (i + 1));
        }
        due("a call for less", x.call(2, 0, 2), 198);
        due("costs less", x.costs(), 4 * 3960 + 198);
        due("made by four", x.made(39), 396);
        due("made by one", x.made(1), 99);
        due("made by none", x.made(2), 0);
    }

    // ---- "THE BEAT (0 ahead of TICK 0) becomes behind each TICK what it was, and .., together"

    private static void beatFromZero() {
        KettleBeats x = plainBeat("draw 100 a<2");
        for (int t = 0; t < 40; t++) {
            due("of nothing", x.beat(t), 0);
        }
        x.pause(0, 0, 7, 0);
        due("behind tick 0", x.beat(0), -7);
        due("behind tick 1", x.beat(1), -14);
        due("behind tick 2", x.beat(2), -14);
        due("behind tick 39", x.beat(39), -14);
        x.pause(0, 39, 5, 0);
        due("behind tick 38", x.beat(38), -14);
        due("behind tick 39, two", x.beat(39), -19);
        x.work(0, 20, 40, 0);
        x.call(0, 0, 1);
        due("behind tick 0, made too", x.beat(0), 13);
        due("behind tick 1, made ahead", x.beat(1), 6);
        x.call(0, 39, 1);
        due("behind tick 39, made too", x.beat(39), 1);
        due("behind tick -1", x.beat(-1), NO);
        due("behind tick 40", x.beat(40), NO);
    }

    // ---- "(MADE less DEMAND) times 10 by INERTIA (1 .. 999; 100 at first; cut towards 0)"

    private static void beatIsCutTowardsZero() {
        for (int n = 0; n <= 99; n++) {
            KettleBeats x = Checks.withLaw(AT_ONCE);
            x.pause(0, 5, n, 0);
            due("down by " + n, x.beat(5), -(n / 10));
            if (n > 0) {
                x.work(0, n, 40, 0);
                x.call(0, 9, 1);
                due("up by " + n, x.beat(9), 0);
            }
        }
        // Each step is cut by itself: nine times 19 are nine times 1.
        KettleBeats x = Checks.withLaw("draw 100 a<9");
        x.pause(0, 0, 19, 0);
        due("nine steps", x.beat(39), -9);
        x.work(0, 19, 40, 0);
        x.work(0, 19, 40, 0);
        x.call(0, 0, 9);
        x.call(1, 0, 9);
        due("nine steps up", x.beat(39), 9);
    }

    private static void inertiaOneToMost() {
        KettleBeats x = Checks.withLaw(TEN_TIMES);
        x.pause(0, 3, 99, 0);
        due("inertia is 100 at first", x.beat(3), -99);
        due("inertia 1", x.set(2, 1), 100);
        due("by 1", x.beat(3), -9990);
        due("inertia 999", x.set(2, 999), 1);
        due("by 999", x.beat(3), -10);
        due("inertia 0", x.set(2, 0), BAD);
        due("inertia 1000", x.set(2, 1000), BAD);
        due("by 999 still", x.beat(3), -10);
        due("inertia was", x.set(2, 10), 999);
        due("by 10", x.beat(39), -999);
    }

    // ---- "It HOLDS by a bound b (0 .. 999), if it is never farther from 0 than b"

    private static void bounds() {
        for (int bound : new int[] {0, 1, 2, 50, 98}) {
            KettleBeats down = plainBeat(AT_ONCE);
            down.pause(0, 12, bound, 0);
            due("down to the bound " + bound, down.first(bound), -5);
            down.pause(0, 20, 1, 0);
            due("one below the bound " + bound, down.first(bound), 20);
            due("and no more by one more", down.first(bound + 1), -5);
            KettleBeats up = plainBeat(AT_ONCE);
            up.work(0, bound + 1, 40, 0);
            up.pause(0, 12, 1, 0);
            up.call(0, 12, 1);
            due("up to the bound " + bound, up.first(bound), -5);
            up.work(0, 1, 40, 0);
            up.call(1, 20, 1);
            due("one above the bound " + bound, up.first(bound), 20);
            due("and no more by one more", up.first(bound + 1), -5);
        }
        KettleBeats x = plainBeat(TEN_TIMES);
        x.pause(0, 12, 99, 0);
        due("-999 by 999", x.first(999), -5);
        due("-999 by 998", x.first(998), 12);
        x.pause(0, 39, 0, 0);
        x.pause(3, 30, 0, 1);
        due("-1000 by 999", x.first(999), 30);
        due("bound -1", x.first(-1), BAD);
        due("bound 1000", x.first(1000), BAD);
        KettleBeats y = plainBeat(AT_ONCE);
        y.work(0, 99, 40, 0);
        y.work(0, 9, 40, 0);
        y.call(0, 0, 10);
        y.call(1, 10, 1);
        due("999 by 999", y.first(999), -5);
        due("999 by 998", y.first(998), 10);
        y.work(0, 1, 40, 0);
        y.call(2, 35, 1);
        due("1000 by 999", y.first(999), 35);
    }

    // ---- "else FIRST: the first TICK behind which it is"

    private static void firstTick() {
        for (int tick = 0; tick < 40; tick++) {
            KettleBeats x = plainBeat(AT_ONCE);
            x.pause(0, tick, 9, 0);
            due("first at " + tick, x.first(8), tick);
            due("none at all", x.first(9), -5);
            x.work(0, 9, 40, 0);
            x.call(0, tick, 1);
            due("made up for", x.first(0), -5);
        }
        KettleBeats x = plainBeat("draw 100 a<9");
        x.pause(0, 10, 5, 0);
        x.work(0, 90, 40, 0);
        x.call(0, 13, 1);
        due("the first of several", x.first(4), 10);
        due("it comes back between", x.first(14), 12);
        due("up at last", x.first(15), 13);
        due("of nothing", plainBeat(AT_ONCE).first(0), -5);
        x.set(2, 999);
        due("by the inertia set", x.first(0), -5);
        x.set(2, 1);
        due("by the inertia set", x.first(49), 10);
    }

    // ---- "LEAST INERTIA (1 .. 999) with which it HOLDS (-5: none)."

    private static void leastInertia() {
        KettleBeats x = Checks.withLaw(TEN_TIMES);
        due("of nothing", x.inertia(0), 1);
        x.pause(0, 7, 9, 0);
        // Drawn are 179: 1790 by 1 .. 999.
        due("179", x.drawn(0, 7), 179);
        due("by 999", x.inertia(999), 2);
        due("by 895", x.inertia(895), 2);
        due("by 894", x.inertia(894), 3);
        due("by 1", x.inertia(1), 896);
        due("by 0", x.inertia(0), -5);
        due("by -1", x.inertia(-1), BAD);
        due("by 1000", x.inertia(1000), BAD);
        KettleBeats ninety = Checks.withLaw(AT_ONCE);
        ninety.pause(0, 0, 99, 0);
        due("990 by 0", ninety.inertia(0), 991);
        due("990 by 989", ninety.inertia(989), 2);
        due("990 by 990", ninety.inertia(990), 1);
        // 1998 by 999 is 2, by 998 too; 10 times 998: by 999 9, by 998 10.
        KettleBeats edge = Checks.withLaw(TEN_TIMES + ";most 998");
        edge.pause(0, 39, 99, 0);
        due("999 alone", edge.inertia(9), 999);
        Checks.law(edge, TEN_TIMES);
        due("none", edge.inertia(9), -5);
        due("the inertia that is set stays", edge.set(2, 5), 100);
        due("whatever is set", edge.inertia(10), 909);
    }

    // ---- "BEST of a WORK: the TICK and the n (1 .. 20) for which, all others as they are, it HOLDS .. (-5: none)."

    private static void best(String what, KettleBeats x, int work, int bound, int... wants) {
        for (int i = 0; i < 3; i++) {
            due("best " + what + ", what " + i, x.best(work, bound, i), wants.length == 1 ? wants[0] : wants[i]);
        }
    }

    private static void bestTick() {
        for (int tick = 0; tick < 40; tick++) {
            KettleBeats x = plainBeat(AT_ONCE);
            x.pause(0, tick, 50, 0);
            x.work(0, 50, 40, 7);
            best("at " + tick, x, 0, 0, tick, 1, 7);
            for (int lag = 1; lag <= 9; lag += 4) {
                x.work(lag, 50, 40, 3);
                if (tick < lag) {
                    best("too late at " + tick, x, x.count(1) - 1, 0, -5);
                } else {
                    best("late at " + tick, x, x.count(1) - 1, 0, tick - lag, 1, 3);
                }
            }
        }
    }

    private static void bestNumber() {
        for (int n = 1; n <= 22; n++) {
            KettleBeats x = plainBeat("draw 100 a<" + n);
            x.pause(0, 10, 50, 0);
            x.work(0, 50, 40, 3);
            x.work(0, 50, 1, 3);
            x.work(0, 50, 19, 3);
            x.work(0, 50, 20, 3);
            int[] wants = n <= 20 ? new int[] {10, n, 3 * n} : new int[] {-5};
            best("of n " + n, x, 0, 0, wants);
            best("of n " + n + ", store 1", x, 1, 0, n <= 1 ? wants : new int[] {-5});
            best("of n " + n + ", store 19", x, 2, 0, n <= 19 ? wants : new int[] {-5});
            best("of n " + n + ", store 20", x, 3, 0, wants);
        }
        // Not 0: it would hold without a call, and can't with one.
        KettleBeats x = plainBeat(AT_ONCE);
        x.work(0, 50, 40, 1);
        best("not n 0", x, 0, 49, -5);
        due("without", x.first(0), -5);
        best("n 1", x, 0, 50, 0, 1, 1);
    }

    private static void bestCosts() {
        KettleBeats x = plainBeat("draw 100 a<3");
        x.pause(0, 36, 20, 0);
        x.work(0, 20, 40, 11);
        x.work(9, 99, 8, 5);
        x.call(1, 31, 30);
        // The other's 8 ticks are not seen, but cost 40.
        best("of all works", x, 0, 0, 36, 3, 73);
        x.call(0, 3, 17);
        best("whatever it was called", x, 0, 0, 36, 3, 73);
        due("it is called as it was", x.made(3), 20);
        due("costs as they were", x.costs(), 17 * 11 + 40);
        due("the beat as it was", x.beat(19), 340);
        best("by a wider bound", x, 0, 20, 35, 2, 62);
        best("by a bound of 40", x, 0, 40, 0, 1, 51);
        x.set(2, 201);
        best("by the inertia set", x, 0, 0, 0, 1, 51);
        x.set(2, 200);
        best("by the inertia set", x, 0, 0, 36, 3, 73);
        x.set(2, 1);
        best("by the inertia set", x, 0, 199, 36, 3, 73);
        best("by the inertia set", x, 0, 200, 35, 2, 62);
    }

    // ---- "with the least COSTS of all WORKS; of several the least n, then the least TICK"

    private static void bestOfSeveral() {
        // Without a COST all n cost the same: the least n, then the least TICK.
        KettleBeats x = plainBeat("draw 100 a<4");
        x.pause(0, 20, 30, 0);
        x.work(0, 30, 40, 0);
        best("by 30", x, 0, 30, 19, 3, 0);
        best("by 29", x, 0, 29, 20, 4, 0);
        best("by 60", x, 0, 60, 0, 2, 0);
        best("by 89", x, 0, 89, 0, 2, 0);
        best("by 90", x, 0, 90, 0, 1, 0);
        best("by 119", x, 0, 119, 0, 1, 0);
        // The least n is at a late TICK only, more would go at an early one.
        KettleBeats y = plainBeat("draw 100 a=0|a=10");
        y.pause(0, 10, 30, 0);
        y.work(0, 30, 40, 2);
        best("one at the second", y, 0, 30, 0, 1, 2);
        best("both", y, 0, 29, -5);
        // Past the STORE n changes nothing: the least one is as long as the STORE.
        KettleBeats z = plainBeat("draw 100 a<3");
        z.pause(0, 20, 30, 0);
        z.work(0, 30, 3, 4);
        best("all the store", z, 0, 0, 20, 3, 12);
    }

    // ---- "LOWEST, HIGHEST beat: of those behind each TICK. WAVE: HIGHEST less LOWEST."

    private static void wave(String what, KettleBeats x, int lowest, int highest) {
        due("lowest " + what, x.wave(0), lowest);
        due("highest " + what, x.wave(1), highest);
        due("wave " + what, x.wave(2), highest - lowest);
    }

    private static void lowestAndHighest() {
        KettleBeats x = plainBeat("draw 100 a<40");
        wave("of nothing", x, 0, 0);
        x.pause(0, 0, 3, 0);
        wave("down from tick 0 on, not the 0 ahead", x, -120, -3);
        x.work(0, 8, 40, 0);
        x.call(0, 0, 40);
        wave("up from tick 0 on", x, 5, 200);
        x.call(0, 39, 1);
        wave("last up", x, -117, -3);
        KettleBeats first = plainBeat(AT_ONCE);
        first.pause(0, 0, 9, 0);
        first.work(0, 9, 40, 0);
        first.call(0, 1, 1);
        wave("lowest behind tick 0", first, -9, 0);
        first.call(0, 39, 1);
        wave("highest behind tick 39", first, -9, 0);
        first.call(0, 39, 0);
        wave("all the same", first, -9, -9);
        KettleBeats last = plainBeat(AT_ONCE);
        last.pause(0, 39, 9, 0);
        wave("lowest behind tick 39", last, -9, 0);
        last.set(2, 90);
        wave("by the inertia set", last, -1, 0);
        last.set(2, 91);
        wave("by the inertia set", last, 0, 0);
    }

    // ---- "a BREAK comes at its TICK, or 1, or 2 later, with odds of 10 (10, 0, 0 at first)"

    private static void sure(String what, KettleBeats x, int bound, int above, int below) {
        due("sure, above, " + what, x.sure(bound, 0), above);
        due("sure, below, " + what, x.sure(bound, 1), below);
    }

    private static void worst(String what, KettleBeats x, int bound, int first, int way) {
        due("worst, first, " + what, x.worst(bound, 0), first);
        due("worst, way, " + what, x.worst(bound, 1), way);
    }

    private static void oddsAtFirst() {
        KettleBeats x = plainBeat(AT_ONCE);
        for (int i = 0; i < 8; i++) {
            x.pause(0, 37, 5, 0);
            sure("all " + (i + 1) + " come at their tick", x, 5 * i + 4, 0, 1);
            worst("all " + (i + 1) + " come at their tick", x, 5 * i + 4, 37, 0);
            sure("they hold", x, 5 * i + 5, 1, 1);
        }
        // Also behind an undo, when another had these odds.
        KettleBeats y = plainBeat(AT_ONCE);
        y.image();
        y.pause(0, 38, 5, 0);
        y.later(0, 0, 0);
        sure("two later", y, 4, 1, 1);
        y.undo();
        y.pause(0, 38, 5, 0);
        sure("a new one comes at its tick", y, 4, 0, 1);
    }

    private static void oddsOfTen() {
        // It comes at 37, at 38, and is given then; at 39 it is not.
        for (int now = 0; now <= 10; now++) {
            for (int one = 0; one <= 10 - now; one++) {
                KettleBeats x = plainBeat("draw 100 a=0;draw 100 t=38");
                x.pause(0, 37, 5, 0);
                due("odds " + now + ", " + one, x.later(0, now, one), 1);
                // 5, 10 at 38, if at 37; 10, if at 38; 5, if at 39.
                int two = 10 - now - one;
                int common = two % 10 == 0 ? 10 : two % 5 == 0 ? 5 : two % 2 == 0 ? 2 : 1;
                sure("odds of two later " + two, x, 5, two / common, 10 / common);
                int first = now > 0 || one > 0 ? 38 : -5;
                worst("odds " + now + ", " + one, x, 5, first, now > 0 ? 0 : one > 0 ? 1 : -5);
                worst("odds " + now + ", " + one, x, 4, now > 0 ? 37 : one > 0 ? 38 : 39, now > 0 ? 0 : one > 0 ? 1 : 2);
            }
        }
        KettleBeats x = plainBeat(AT_ONCE);
        x.pause(0, 37, 5, 0);
        due("odds below 0", x.later(0, -1, 0), BAD);
        due("odds below 0", x.later(0, 0, -1), BAD);
        due("odds of 11", x.later(0, 11, 0), BAD);
        due("odds of 11", x.later(0, 0, 11), BAD);
        due("odds of 11 together", x.later(0, 10, 1), BAD);
        due("odds of 11 together", x.later(0, 1, 10), BAD);
        sure("it comes at its tick", x, 4, 0, 1);
        worst("it comes at its tick", x, 4, 37, 0);
    }

    // ---- "(4 BREAKS at most may come later)"

    private static void fourMayBeLater() {
        KettleBeats x = plainBeat(AT_ONCE);
        for (int i = 0; i < 8; i++) {
            x.pause(0, 38, 1, 0);
        }
        for (int i = 0; i < 8; i++) {
            x.later(i, i % 2 == 0 ? 9 : 0, i % 3 == 0 ? 1 : 0);
            boolean asked = i < 4;
            due("sure of " + (i + 1), x.sure(8, 0), asked ? 1 : NO);
            due("sure of " + (i + 1) + ", below", x.sure(8, 1), asked ? 1 : NO);
            due("worst of " + (i + 1), x.worst(8, 0), asked ? -5 : -9);
            due("worst of " + (i + 1) + ", way", x.worst(8, 1), asked ? -5 : -9);
            due("first of " + (i + 1), x.first(8), -5);
        }
        for (int i = 0; i < 4; i++) {
            due("back to its tick", x.later(i, 10, 0), 1);
            due("sure of " + (7 - i), x.sure(8, 0), i == 3 ? 1 : NO);
            due("worst of " + (7 - i), x.worst(8, 0), i == 3 ? -5 : -9);
        }
        due("the same odds again", x.later(7, 0, 10), 1);
        due("sure of four", x.sure(8, 0), 1);
        due("a fifth", x.later(0, 9, 1), 1);
        due("sure of five", x.sure(8, 0), NO);
    }

    // ---- "all else that is asked is as if each came at its TICK"

    private static void allElseAtItsTick() {
        KettleBeats x = plainBeat(AT_ONCE);
        x.pause(0, 20, 30, 0);
        x.pause(0, 22, 30, 0);
        x.later(0, 0, 0);
        x.later(1, 0, 10);
        x.work(0, 30, 40, 0);
        due("of", x.of(0, 1), 20);
        due("drawn", x.drawn(0, 20), 30);
        due("drawn two later", x.drawn(0, 22), 0);
        due("demand", x.demand(20), 30);
        due("beat", x.beat(20), -30);
        due("first", x.first(29), 20);
        due("lowest", x.wave(0), -60);
        due("inertia", x.inertia(300), 2);
        best("as at its tick", x, 0, 30, 0, 1, 0);
        best("as at its tick, narrow", x, 0, 29, -5);
        due("beside", x.beside(0, 29, 1, 30), -5);
        due("pump", x.pump(0, 0), 20);
        due("waits", x.waits(0, 1, 1), 0);
        sure("later it is at 22, and at 23", x, 59, 0, 1);
        worst("at 22, and at 23", x, 29, 22, 21);
    }

    // ---- "SURE by b: how likely it HOLDS, each BREAK coming by its odds ..: a fraction in lowest terms."

    private static void sureInLowestTerms() {
        KettleBeats none = plainBeat(AT_ONCE);
        sure("of no break", none, 0, 1, 1);
        none.work(0, 9, 40, 0);
        none.call(0, 0, 1);
        sure("of no break, too much made", none, 8, 0, 1);
        KettleBeats x = plainBeat(AT_ONCE);
        for (int i = 0; i < 4; i++) {
            x.pause(0, 38, 1, 0);
            x.later(i, 7, 0);
        }
        // 3 by 10 that it is not seen; by 0 none may be seen, by 1 one, and so on.
        sure("none", x, 0, 81, 10000);
        sure("one", x, 1, 837, 10000);
        sure("two", x, 2, 3483, 10000);
        sure("three", x, 3, 7599, 10000);
        sure("four", x, 4, 1, 1);
        for (int i = 0; i < 4; i++) {
            x.later(i, 5, 0);
        }
        sure("halves, none", x, 0, 1, 16);
        sure("halves, one", x, 1, 5, 16);
        sure("halves, two", x, 2, 11, 16);
        sure("halves, three", x, 3, 15, 16);
        for (int i = 0; i < 4; i++) {
            x.later(i, 0, 10 - 2 * i);
        }
        sure("10, 8, 6, 4, none", x, 0, 0, 1);
        // The first one is; 2, 4 and 6 by 10 that the others are not.
        sure("10, 8, 6, 4, one", x, 1, 6, 125);
        sure("10, 8, 6, 4, two", x, 2, 43, 125);
    }

    private static void sureOfEight() {
        // The four last ones may be later, of eight.
        KettleBeats x = plainBeat(AT_ONCE);
        for (int i = 0; i < 8; i++) {
            x.pause(0, 38, 1, 0);
            x.later(i, i < 4 ? 10 : 5, 0);
        }
        sure("of eight, by 3", x, 3, 0, 1);
        sure("of eight, by 4", x, 4, 1, 16);
        sure("of eight, by 5", x, 5, 5, 16);
        sure("of eight, by 7", x, 7, 15, 16);
        sure("of eight, by 8", x, 8, 1, 1);
        x.set(2, 100);
        sure("by the inertia set", x, 0, 1, 1);
        x.set(2, 1);
        sure("by the inertia set", x, 40, 1, 16);
        x.work(0, 4, 40, 0);
        x.call(0, 38, 1);
        sure("with a work", x, 0, 1, 16);
    }

    // ---- "WORST: .. by which FIRST is least (of several the first as a row, how much later each BREAK comes)."

    private static void worstOfSeveral() {
        KettleBeats x = plainBeat(AT_ONCE);
        for (int i = 0; i < 3; i++) {
            x.pause(0, 10, 5, 0);
            x.later(i, 3, 3);
        }
        worst("any of them", x, 4, 10, 0);
        worst("two of them", x, 5, 10, 0);
        worst("all of them", x, 10, 10, 0);
        worst("none", x, 15, -5, -5);
        x.later(0, 0, 5);
        worst("the first is later", x, 4, 10, 100);
        worst("the first is later, all of them", x, 10, 11, 100);
        x.later(1, 0, 0);
        worst("the second two later", x, 4, 10, 120);
        worst("the second two later, two", x, 5, 11, 120);
        worst("the second two later, all", x, 10, 12, 120);
        x.later(2, 0, 0);
        worst("two are two later", x, 4, 11, 122);
        worst("two are two later, all", x, 10, 12, 122);
        // The way with the least FIRST is not the first one as a row.
        KettleBeats y = plainBeat(AT_ONCE);
        y.pause(0, 10, 5, 0);
        y.pause(0, 12, 5, 0);
        y.work(0, 5, 40, 0);
        y.call(0, 10, 1);
        y.later(0, 5, 0);
        worst("made, but not drawn", y, 4, 10, 20);
        y.later(1, 5, 5);
        worst("made, but not drawn, two", y, 4, 10, 20);
        worst("never by 5", y, 5, -5, -5);
    }

    private static void worstOfEight() {
        int[] digits = {10_000_000, 1_000_000, 100_000, 10_000, 1_000, 100, 10, 1};
        for (int last = 0; last < 8; last++) {
            KettleBeats x = plainBeat(AT_ONCE);
            for (int i = 0; i < 8; i++) {
                x.pause(0, 30, i == last ? 9 : 1, 0);
            }
            x.later(last, 0, 10);
            worst("the " + last + "th is 1 later", x, 7, 31, digits[last]);
            x.later(last, 0, 0);
            worst("the " + last + "th is 2 later", x, 7, 32, 2 * digits[last]);
            worst("the others", x, 6, 30, 2 * digits[last]);
            x.later(last, 10, 0);
            worst("none is later", x, 7, 30, 0);
        }
        KettleBeats all = plainBeat(AT_ONCE);
        for (int i = 0; i < 8; i++) {
            all.pause(0, 37, 1, 0);
            all.later(i, i < 4 ? 0 : 10, 0);
        }
        worst("the first four", all, 7, 39, 22_220_000);
        all.set(2, 100);
        worst("by the inertia set", all, 0, -5, -5);
        all.set(2, 5);
        worst("by the inertia set", all, 7, 37, 22_220_000);
    }

    private static void worstHolds() {
        KettleBeats x = plainBeat(AT_ONCE);
        worst("of no break", x, 0, -5, -5);
        x.work(0, 9, 40, 0);
        x.call(0, 39, 1);
        worst("of no break, behind 39", x, 8, 39, 0);
        worst("of no break, by 9", x, 9, -5, -5);
        x.call(0, 0, 1);
        worst("of no break, behind 0", x, 8, 0, 0);
        KettleBeats y = plainBeat(AT_ONCE);
        y.pause(0, 38, 9, 0);
        y.later(0, 0, 0);
        worst("beyond tick 39", y, 0, -5, -5);
        y.later(0, 0, 1);
        worst("odds of 1", y, 0, 39, 1);
        worst("odds of 1, by 9", y, 9, -5, -5);
        due("by 999", y.worst(999, 0), -5);
        due("by 1000", y.worst(1000, 0), BAD);
        due("by -1", y.worst(-1, 1), BAD);
    }

    // ---- "as if each came at its TICK, or 1, or 2 later": from tick 0 on, beyond tick 39 it is not seen

    private static void laterAtEachTick() {
        for (int tick = 0; tick < 40; tick++) {
            KettleBeats x = plainBeat(AT_ONCE);
            x.pause(0, tick, 9, 0);
            for (int delay = 0; delay <= 2; delay++) {
                x.later(0, delay == 0 ? 9 : 0, delay == 0 ? 0 : delay == 1 ? 10 : 0);
                boolean seen = tick + delay < 40;
                String what = "at " + tick + ", " + delay + " later";
                worst(what, x, 8, seen ? tick + delay : -5, seen ? delay : -5);
                worst(what + ", by 9", x, 9, -5, -5);
                // Of ten 9 times at its TICK, once 2 later.
                int missed = delay == 0 && tick + 2 > 39 ? 1 : seen ? 0 : 10;
                sure(what, x, 8, missed == 10 ? 1 : missed, missed == 1 ? 10 : 1);
            }
        }
    }

    // ---- "as often as THE BEAT is below -r behind a TICK"

    private static void ruleBelow() {
        for (int r : new int[] {0, 1, 5, 98}) {
            KettleBeats x = plainBeat(AT_ONCE);
            x.pause(0, 10, r, 0);
            x.work(0, 99, 40, 0);
            due("not below -" + r, x.beside(0, r, 20, 98), -5);
            x.pause(0, 20, 1, 0);
            // Two times 99 up from -r - 1, at ticks 21 and 22.
            due("below -" + r, x.beside(0, r, 20, 98), r < 98 ? 22 : 20);
            due("not below -" + (r + 1), x.beside(0, r + 1, 20, 99), -5);
        }
        KettleBeats x = plainBeat(TEN_TIMES);
        x.pause(0, 5, 99, 0);
        x.pause(0, 30, 25, 0);
        x.work(0, 99, 40, 0);
        due("-999 is below -998", x.beside(0, 998, 20, 999), -5);
        due("-999 is not below -999", x.beside(0, 999, 20, 999), 30);
    }

    // ---- "it is to give POWER for m TICKS from LAG behind the next one on"

    private static void ruleForTicks() {
        for (int m = 1; m <= 20; m++) {
            KettleBeats x = plainBeat(AT_ONCE);
            x.pause(0, 5, 40, 0);
            x.work(0, 40, 40, 0);
            // 0 behind tick 6, 40 behind tick 7, and so on.
            due("for " + m, x.beside(0, 39, m, Math.max(40, 40 * (m - 1))), -5);
            due("for " + m + ", the last one", x.beside(0, 39, m, Math.max(40, 40 * (m - 1)) - 1), m < 3 ? 5 : 5 + m);
        }
        // As often as it is below: behind 5, 6 and 7 in turn; each tick is given but once.
        KettleBeats x = plainBeat(AT_ONCE);
        x.pause(0, 5, 30, 0);
        x.work(0, 10, 40, 0);
        due("up from -30", x.beside(0, 0, 1, 30), -5);
        due("on and on", x.beside(0, 0, 1, 29), 5);
        x.pause(0, 12, 35, 0);
        due("it is at 0 from 8 on", x.beside(0, 0, 1, 34), 12);
        due("it is at 0 from 8 on", x.beside(0, 0, 1, 35), -5);
        due("for 2, one too many", x.beside(0, 0, 2, 30), -5);
        due("for 0", x.beside(0, 0, 0, 30), BAD);
        due("for 21", x.beside(0, 0, 21, 30), BAD);
    }

    private static void ruleLag() {
        for (int lag = 0; lag <= 9; lag++) {
            KettleBeats x = plainBeat(AT_ONCE);
            x.pause(0, 5, 40, 0);
            x.work(lag, 99, 1, 0);
            // Given once, at tick 6 + lag: 59 then.
            due("lag " + lag, x.beside(0, 39, 1, 58), 6 + lag);
            due("lag " + lag + ", by 59", x.beside(0, 39, 1, 59), -5);
            KettleBeats late = plainBeat(AT_ONCE);
            late.pause(0, 38 - lag, 40, 0);
            late.work(lag, 99, 40, 0);
            due("at tick 39, lag " + lag, late.beside(0, 39, 20, 58), 39);
            KettleBeats tooLate = plainBeat(AT_ONCE);
            tooLate.pause(0, 39 - lag, 40, 0);
            tooLate.work(lag, 99, 40, 0);
            due("beyond tick 39, lag " + lag, tooLate.beside(0, 39, 20, 58), -5);
        }
    }

    // ---- "it gives so in all TICKS that it is to, till that was as often as its STORE"

    private static void ruleStore() {
        for (int store = 1; store <= 20; store++) {
            KettleBeats x = plainBeat(AT_ONCE);
            x.pause(0, 5, 99, 0);
            x.work(0, 30, store, 0);
            x.work(0, 1, store, 0);
            x.work(0, 99, 40, 0);
            x.call(2, 30, 2);
            // 198 are made at 30 and 31, on top of -99 and what the store has given by then.
            due("a store of " + store, x.beside(0, 98, 20, 30 * store + 99), -5);
            due("a store of " + store + ", by less", x.beside(0, 98, 20, 30 * store + 98), 31);
            // Below 0 behind each tick from 5 on, it gives one by one, till the store is empty.
            due("a store of " + store + ", often", x.beside(1, 0, 1, store + 99), -5);
            due("a store of " + store + ", often, by less", x.beside(1, 0, 1, store + 98), 31);
        }
    }

    // ---- "leads a WORK instead of its CALL"

    private static void ruleInsteadOfItsCall() {
        KettleBeats x = plainBeat(AT_ONCE);
        x.work(0, 50, 40, 9);
        x.call(0, 3, 10);
        due("its call is not looked at", x.beside(0, 0, 20, 0), -5);
        due("its call stays", x.made(3), 50);
        due("its costs stay", x.costs(), 90);
        x.work(0, 7, 40, 0);
        x.call(1, 39, 1);
        due("the others' calls are", x.beside(0, 0, 20, 6), 39);
        due("the first is another's", x.beside(1, 0, 20, 49), 3);
        x.call(0, 0, 0);
        // What the other makes is made too: -40, then 50 up.
        x.pause(0, 38, 40, 0);
        due("both make", x.beside(0, 0, 1, 40), -5);
        due("at 39: -40 and 50 and 7", x.beside(0, 0, 1, 39), 38);
    }

    // ---- "BESIDE: FIRST by b so (-5: it HOLDS)."

    private static void besideFirst() {
        for (int tick = 0; tick < 40; tick++) {
            KettleBeats x = plainBeat(AT_ONCE);
            x.pause(0, tick, 50, 0);
            x.work(9, 1, 1, 0);
            due("first at " + tick, x.beside(0, 999, 1, 49), tick);
            due("it holds at " + tick, x.beside(0, 999, 1, 50), -5);
            x.set(2, 100);
            due("by the inertia set", x.beside(0, 999, 1, 4), tick);
            due("by the inertia set", x.beside(0, 999, 1, 5), -5);
        }
        KettleBeats none = plainBeat(AT_ONCE);
        none.work(0, 99, 40, 0);
        due("of no break", none.beside(0, 0, 20, 0), -5);
        none.work(0, 99, 40, 0);
        none.call(1, 0, 40);
        due("by 999", none.beside(0, 0, 20, 999), 10);
        due("by 1000", none.beside(0, 0, 20, 1000), BAD);
        due("by -1", none.beside(0, 0, 20, -1), BAD);
    }

    // ---- No answer hangs on what was asked before: each is the first to be asked of a new object.

    /** Drawn are 20 at ticks 0 to 2; one work gives 20 then, the other one 10 at tick 5. */
    private static KettleBeats unasked() {
        KettleBeats x = Checks.withLaw("draw 100 a<3");
        x.set(2, 10);
        x.pause(0, 0, 20, 0);
        x.work(0, 20, 40, 3);
        x.work(0, 10, 40, 1);
        x.call(0, 0, 3);
        x.call(1, 5, 1);
        return x;
    }

    private static void askedFirstOfAll() {
        due("demand, first asked", unasked().demand(2), 20);
        due("made, first asked", unasked().made(5), 10);
        due("costs, first asked", unasked().costs(), 10);
        due("beat, first asked", unasked().beat(39), 10);
        due("first, first asked", unasked().first(9), 5);
        due("first by 10, first asked", unasked().first(10), -5);
        due("lowest, first asked", unasked().wave(0), 0);
        due("highest, first asked", unasked().wave(1), 10);
        due("wave, first asked", unasked().wave(2), 10);
        due("inertia, first asked", unasked().inertia(9), 11);
        due("inertia by 50, first asked", unasked().inertia(50), 2);
        due("best tick, first asked", unasked().best(0, 10, 0), 0);
        due("best n, first asked", unasked().best(0, 10, 1), 3);
        due("best costs, first asked", unasked().best(0, 10, 2), 10);
        due("best beside the other, first asked", unasked().best(0, 9, 0), -5);
        due("best of the other, first asked", unasked().best(1, 10, 2), 10);
        due("sure, first asked", unasked().sure(10, 0), 1);
        due("sure by 9, first asked", unasked().sure(9, 0), 0);
        due("worst, first asked", unasked().worst(9, 0), 5);
        due("worst's way, first asked", unasked().worst(10, 1), -5);
        due("beside, first asked", unasked().beside(1, 0, 1, 0), -5);
        due("beside of the other, first asked", unasked().beside(0, 999, 1, 59), 2);
        due("beside of the other by 60, first asked", unasked().beside(0, 999, 1, 60), -5);
        due("pump, first asked", unasked().pump(2, 2), 4);
    }
}
