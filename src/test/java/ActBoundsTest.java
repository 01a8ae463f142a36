/** What bounds the document's part 3 names: of pumps, the row, waiting, acts, the trace, the image. Sentence by sentence. */
public final class ActBoundsTest {
    private static final int NONE = KettleBeats.NONE, BAD = KettleBeats.BAD, STATE = KettleBeats.STATE, FULL = KettleBeats.FULL;
    private static final int LOW = Integer.MIN_VALUE, HIGH = Integer.MAX_VALUE;
    private static final String AT_ONCE = "draw 100 a=0";

    private ActBoundsTest() {
    }

    public static void main(String[] args) {
        pumpsAndTheirLags();
        pumpsAheadOfTickZero();
        pumpsFeelTheMost();
        rowOfTwenty();
        rowIsEmptied();
        watchedOfTheRow();
        watchedSizes();
        watchedOfKindZero();
        watchedTicks();
        waitZeroToNine();
        waitOfSeveral();
        waitOfAllBreaks();
        waitAtEachTick();
        waitIsWorth();
        actsWrap();
        actsByLiteral();
        traceOfTheLatest();
        traceOfARefusedAct();
        imageOfNothing();
        imageOfAllThatIsFull();
        imageOfAllThatIsEmpty();
        imageIsTheLatest();
        imageKeepsNoTrace();
        Checks.close();
    }

    private static void due(String call, long got, long want) {
        Checks.due(call, got, want);
    }

    // ---- "PUMP p (0 .. 9) feels at a TICK the DEMAND of p times k TICKS before (k 0 .. 4; ..)"

    private static void pumpsAndTheirLags() {
        for (int pump = -1; pump <= 10; pump++) {
            for (int k = -1; k <= 5; k++) {
                KettleBeats x = Checks.withLaw(AT_ONCE);
                x.pause(0, 3, 50, 0);
                int felt = 3 + pump * k;
                int want = pump < 0 || pump > 9 ? NONE : k < 0 || k > 4 ? BAD : felt < 40 ? felt : 0;
                due("pump " + pump + ", k " + k, x.pump(pump, k), want);
            }
        }
        KettleBeats x = Checks.withLaw(AT_ONCE);
        x.pause(0, 39, 50, 0);
        due("felt at 39", x.pump(0, 4), 39);
        due("felt at 39, k 0", x.pump(9, 0), 39);
        due("not felt by 39", x.pump(1, 1), 0);
        due("far away", x.pump(LOW, 0), NONE);
        due("far away", x.pump(HIGH, HIGH), NONE);
        due("far later", x.pump(9, HIGH), BAD);
        KettleBeats y = Checks.withLaw(AT_ONCE);
        y.pause(0, 0, 50, 0);
        for (int k = 0; k <= 4; k++) {
            due("from tick 0 on, k " + k, y.pump(9, k), 9 * k);
            due("the first pump at once, k " + k, y.pump(0, k), 0);
        }
    }

    // ---- "0 ahead of TICK 0"

    private static void pumpsAheadOfTickZero() {
        KettleBeats x = Checks.withLaw("most 0");
        x.pause(4, 0, 50, 9);
        due("below 0 at first", x.pump(0, 0), 9);
        due("0 ahead of tick 0", x.pump(1, 1), 0);
        due("0 ahead of tick 0, longer", x.pump(9, 4), 0);
        // All of 40 ticks below 0: the least of them is the last one.
        for (int i = 1; i < 5; i++) {
            x.pause(4, 9 * i, i == 4 ? 40 : 50, 9);
        }
        due("below 0 all the time", x.pump(0, 0), 36);
        due("more is nothing ahead", x.pump(3, 1), 0);
        due("of no break", Checks.withLaw(AT_ONCE).pump(5, 2), 0);
        // It is neither above nor below 0 there: 1 is more, -1 is less.
        KettleBeats above = Checks.withLaw(AT_ONCE);
        above.pause(0, 0, 1, 0);
        due("1 is more than ahead", above.pump(1, 1), 1);
        KettleBeats below = Checks.withLaw("most 0");
        for (int i = 0; i < 5; i++) {
            below.pause(4, i == 4 ? 31 : 9 * i, 1, 9);
        }
        due("-1 all the time", below.pump(0, 0), 0);
        due("-1 is less than ahead", below.pump(1, 1), 0);
        below.set(1, 2);
        due("all the same as ahead", below.pump(1, 1), 0);
    }

    // ---- "the TICK (0 .. 39) at which it feels the most (of several the first)"

    private static void pumpsFeelTheMost() {
        for (int tick = 0; tick < 40; tick++) {
            KettleBeats x = Checks.withLaw(AT_ONCE);
            x.pause(0, tick, 50, 0);
            due("the most at " + tick, x.pump(0, 0), tick);
            x.pause(0, 20, 50, 0);
            due("the first of two", x.pump(0, 0), Math.min(tick, 20));
            x.pause(0, 30, 51, 0);
            due("more than the first", x.pump(0, 0), tick == 20 ? 20 : 30);
        }
        KettleBeats all = Checks.withLaw("draw 100 a<40");
        all.pause(0, 0, 50, 0);
        due("all the same", all.pump(0, 0), 0);
        due("all the same, later", all.pump(2, 3), 6);
        all.pause(0, 39, 1, 0);
        due("one more at last", all.pump(0, 0), 39);
    }

    // ---- "a ROW told by hand (what was drawn at TICKS from 0 on, 20 at most)" - "A number (-99 .. 999)"

    private static void rowOfTwenty() {
        KettleBeats x = Checks.withLaw(AT_ONCE);
        due("empty", x.count(3), 0);
        due("-99", x.row(-99), 1);
        due("999", x.row(999), 2);
        due("-101", x.row(-101), BAD);
        due("1000", x.row(1000), BAD);
        due("far below", x.row(LOW), BAD);
        due("far above", x.row(HIGH), BAD);
        due("two", x.count(3), 2);
        for (int i = 3; i <= 20; i++) {
            due("the " + i + "th", x.row(i == 20 ? 57 : 0), i);
        }
        due("the 21st", x.row(0), FULL);
        due("the 21st, bad", x.row(1000), BAD);
        due("twenty", x.count(3), 20);
        // The 20th stands for tick 19.
        due("watched at tick 19", x.watched(19, 0), 57);
        due("watched at tick 19, off", x.watched(19, 1), 99 + 999);
        due("watched at tick 20", x.watched(20, 0), 0);
        due("watched at tick 20, off", x.watched(20, 1), 99 + 999 + 57);
    }

    // ---- "(-100: it is empty then, 0)"

    private static void rowIsEmptied() {
        KettleBeats x = Checks.withLaw(AT_ONCE);
        due("empty as it is", x.row(-100), 0);
        due("none", x.count(3), 0);
        for (int i = 0; i < 20; i++) {
            x.row(50);
        }
        due("empty, though full", x.row(-100), 0);
        due("none again", x.count(3), 0);
        due("off nothing", x.watched(0, 1), 0);
        due("anew", x.row(7), 1);
        due("the new one counts", x.watched(0, 0), 7);
        due("the old ones do not", x.watched(0, 1), 0);
    }

    private static void watched(String what, KettleBeats x, int tick, int size, int off) {
        due("watched, " + what, x.watched(tick, 0), size);
        due("watched, off, " + what, x.watched(tick, 1), off);
    }

    private static KettleBeats withRow(String law, int... row) {
        KettleBeats x = Checks.withLaw(law);
        for (int i = 0; i < row.length; i++) {
            due("row", x.row(row[i]), i + 1);
        }
        return x;
    }

    // ---- "the sum of how far DRAWN is off each is least (of several the least)"

    private static void watchedOfTheRow() {
        watched("an empty row", withRow(AT_ONCE), 0, 0, 0);
        watched("an empty row at 39", withRow(AT_ONCE), 39, 0, 0);
        watched("just so", withRow("draw 100 a=0;draw 50 a=1", 0, 40, 20), 1, 40, 0);
        // From 30 to 40 each size is off 10 in all.
        watched("between two", withRow("draw 100 a<2", 30, 40), 0, 30, 10);
        watched("between three", withRow("draw 100 a<3", 30, 70, 40), 0, 40, 40);
        watched("below and above", withRow("draw 100 a<2", -99, 999), 0, 0, 99 + 999);
        // Cut: of 50 percent 40 and 41 draw 20.
        watched("the least of two", withRow("draw 50 a=0", 20), 0, 40, 0);
        watched("none draws", withRow("draw 1 a=0", 0), 0, 0, 0);
        watched("by most", withRow("draw 100 a=0;most 30", 60), 0, 30, 30);
        watched("off by one", withRow("draw 200 a=0", 51), 0, 25, 1);
    }

    // ---- "the SIZE (0 .. 99)"

    private static void watchedSizes() {
        for (int size = 0; size <= 99; size++) {
            watched("size " + size, withRow(AT_ONCE, size), 0, size, 0);
        }
        watched("below 0", withRow(AT_ONCE, -1), 0, 0, 1);
        watched("far below", withRow(AT_ONCE, -99), 0, 0, 99);
        watched("above 99", withRow(AT_ONCE, 100), 0, 99, 1);
        watched("far above", withRow(AT_ONCE, 999), 0, 99, 900);
        // The law may look at the size: 99 alone draws.
        watched("99 alone", withRow("draw 100 s=99", 90), 0, 99, 9);
        watched("0 alone", withRow("draw 100 !s=0", 0), 0, 0, 0);
        KettleBeats x = withRow(AT_ONCE, 10);
        x.set(1, 9);
        watched("of 9 channels", x, 0, 90, 0);
        x.row(-100);
        x.row(12);
        watched("of 9 channels, too many", x, 0, 99, 1);
    }

    // ---- "of a BREAK of KIND 0"

    private static void watchedOfKindZero() {
        for (int kind = 0; kind <= 6; kind++) {
            watched("kind " + kind, withRow("draw 100 a=0&k=" + kind, 33), 0, kind == 0 ? 33 : 0, kind == 0 ? 0 : 33);
        }
        KettleBeats x = withRow("draw 100 a=0&c=0;draw 50 a=0&c=9", 33);
        x.pause(5, 0, 99, 9);
        watched("whatever breaks there are", x, 0, 33, 0);
        x.set(0, 9);
        watched("by the cold set", x, 0, 66, 0);
        due("no break of it", x.count(0), 1);
    }

    // ---- "at a TICK"

    private static void watchedTicks() {
        int[] row = {1, 2, 3, 4, 5, 6, 7, 8, 9, 10, 11, 12, 13, 14, 15, 16, 17, 18, 19, 20};
        KettleBeats x = withRow("draw 100 a=0|t=39", row);
        for (int tick = 0; tick < 40; tick++) {
            watched("at " + tick, x, tick, tick < 20 ? tick + 1 : 0, tick < 20 ? 209 - tick : 210);
        }
        due("at -1", x.watched(-1, 0), BAD);
        due("at 40", x.watched(40, 0), BAD);
        // Ahead of its tick it draws nothing, whatever the law says.
        watched("ahead of its tick", withRow("draw 100 t<2", 10, 10), 1, 10, 10);
        watched("TICK, not AGE", withRow("draw 100 t=1", 10, 10), 0, 10, 10);
    }

    // ---- "WAIT: of two BREAKS how many TICKS (0 .. 9) later the second one should come"

    private static void waits(String what, KettleBeats x, int a, int b, int ticks, int worth) {
        due("waits, " + what, x.waits(a, b, 0), ticks);
        due("worth, " + what, x.waits(a, b, 1), worth);
    }

    private static KettleBeats withTwo(String law, int tickA, int sizeA, int tickB, int sizeB) {
        KettleBeats x = Checks.withLaw(law);
        x.pause(0, tickA, sizeA, 0);
        x.pause(0, tickB, sizeB, 0);
        return x;
    }

    private static void waitZeroToNine() {
        for (int n = 1; n <= 12; n++) {
            // The first one draws for n ticks: the second one waits till it is over, or can't.
            waits("for " + n, withTwo("draw 100 a<" + n, 10, 50, 10, 30), 0, 1, n <= 9 ? n : 0, n <= 9 ? 30 : 0);
            waits("for " + n + ", turned", withTwo("draw 100 a<" + n, 10, 50, 10, 30), 1, 0, n <= 9 ? n : 0, n <= 9 ? 30 : 0);
        }
        waits("not at all", withTwo(AT_ONCE, 10, 50, 11, 30), 0, 1, 0, 0);
        waits("the second is ahead", withTwo("draw 100 a<2", 10, 50, 9, 30), 0, 1, 3, 30);
        waits("the first is ahead", withTwo("draw 100 a<2", 10, 50, 9, 30), 1, 0, 1, 30);
        waits("beyond tick 39", withTwo(AT_ONCE, 39, 50, 39, 30), 0, 1, 1, 30);
        waits("at ticks 38 and 39", withTwo("draw 100 a<2", 38, 50, 38, 30), 0, 1, 2, 30);
        waits("at tick 0", withTwo(AT_ONCE, 0, 50, 0, 30), 0, 1, 1, 30);
        waits("seen at tick 39 alone", withTwo("draw 100 t=39&a=0", 39, 50, 39, 60), 0, 1, 1, 60);
        waits("seen at tick 0 alone", withTwo("draw 100 t=0", 0, 50, 0, 60), 0, 1, 1, 60);
    }

    // ---- "so that the greatest DEMAND of all TICKS is least (of several the least)"

    private static void waitOfSeveral() {
        // 30 by 2: together 50 and 15; apart 50 as well, by 1 or by more.
        waits("the least of many", withTwo("draw 100 a=0;draw 50 a=1", 10, 50, 10, 30), 0, 1, 2, 30);
        waits("a bit is enough", withTwo("draw 100 a=0;draw 20 a=1", 10, 50, 10, 30), 0, 1, 1, 30);
        waits("a bit now, more later", withTwo("draw 100 a=0;draw 60 a=1", 10, 50, 10, 30), 0, 1, 2, 30);
        waits("a part of it", withTwo("draw 100 a<10;draw 50 a=9", 10, 50, 10, 30), 0, 1, 1, 15);
        waits("less, not least, is passed by", withTwo("draw 100 a=0;draw 90 a<5&a>0;draw 80 a>4&a<8", 10, 50, 10, 30), 0, 1, 8, 30);
        waits("nobody watches", withTwo(AT_ONCE, 10, 0, 10, 0), 0, 1, 0, 0);
        waits("nobody watches the second", withTwo(AT_ONCE, 10, 50, 10, 0), 0, 1, 0, 0);
    }

    private static void waitOfAllBreaks() {
        KettleBeats x = withTwo(AT_ONCE, 10, 50, 10, 30);
        x.pause(0, 11, 25, 0);
        waits("beside a third", x, 0, 1, 2, 30);
        x.pause(0, 12, 50, 0);
        waits("beside a fourth", x, 0, 1, 3, 30);
        x.pause(0, 20, 80, 0);
        waits("a fifth is as much", x, 0, 1, 0, 0);
        waits("the fifth is the most", x, 0, 4, 0, 0);
        x.later(1, 0, 0);
        x.pause(0, 20, 10, 0);
        waits("as if each came at its tick", x, 0, 5, 1, 10);
        // With eight: the last one waits for the seventh.
        x.pause(0, 30, 90, 0);
        x.pause(0, 30, 9, 0);
        waits("of eight", x, 6, 7, 1, 9);
        waits("of eight, turned", x, 7, 6, 1, 9);
        // All below 0: the SILENT one waits, so that the least -50 is at other ticks.
        KettleBeats below = Checks.withLaw("most 0");
        for (int i = 0; i < 5; i++) {
            below.pause(4, 9 * i - (i == 4 ? 5 : 0), 50, 9);
        }
        waits("below 0", below, 0, 1, 0, 0);
    }

    // ---- "the greatest DEMAND of all TICKS": at each of them it may be

    private static void waitAtEachTick() {
        for (int tick = 0; tick < 40; tick++) {
            // From tick 31 on the second one can wait till it is not seen.
            int unseen = tick >= 31 ? 40 - tick : 0;
            waits("the second is less at " + tick, withTwo(AT_ONCE, tick, 70, tick, 20), 0, 1, 1, 20);
            waits("the second is more at " + tick, withTwo(AT_ONCE, tick, 20, tick, 70), 0, 1, unseen > 0 ? unseen : 1, unseen > 0 ? 70 : 20);
            waits("nothing to wait for at " + tick, withTwo(AT_ONCE, tick, 70, (tick + 20) % 40, 30), 0, 1, 0, 0);
            // At the next three ticks others draw: there it would be more than at its own.
            KettleBeats x = withTwo(AT_ONCE, 0, 0, tick, 30);
            for (int t = tick + 1; t <= Math.min(39, tick + 3); t++) {
                x.pause(0, t, 10, 0);
            }
            waits("others draw behind " + tick, x, 0, 1, unseen, unseen == 0 ? 0 : unseen == 1 ? 30 : 20);
        }
    }

    // ---- "what it is worth: how much less that is than if it came at its TICK"

    private static void waitIsWorth() {
        for (int size = 0; size <= 50; size += 10) {
            waits("worth " + size, withTwo(AT_ONCE, 10, 50, 10, size), 0, 1, size > 0 ? 1 : 0, size);
        }
        waits("the first is smaller", withTwo(AT_ONCE, 10, 20, 10, 70), 0, 1, 1, 20);
        waits("a part", withTwo("draw 100 a<2;draw 40 a>1", 10, 50, 10, 50), 0, 1, 2, 30);
        KettleBeats x = withTwo(AT_ONCE, 10, 50, 10, 50);
        due("what 2", x.waits(0, 1, 2), NONE);
        due("what -1", x.waits(0, 1, -1), NONE);
        due("one break", x.waits(1, 1, 1), BAD);
    }

    // ---- "ACTS of a BREAK with x (ints, wrapping): draws, rises, tells; i its number."

    /** In longs, which do not wrap here. */
    private static long drawn(int kind, long x, int i) {
        long whistled = x * 3 + i;
        return kind == 6 ? whistled ^ i : kind == 1 || kind == 2 ? whistled : x + i;
    }

    private static long risen(int kind, long x, int i, int v) {
        long risen = drawn(kind, x, i) - v;
        return kind == 3 ? -risen : kind == 5 ? risen + v : risen;
    }

    private static long told(int kind, long x, int i, int v) {
        if (kind == 2) {
            return risen(kind, x - 1, i, v) * 2 + drawn(kind, 2, i);
        }
        long told = risen(kind, x, i, v) * 2;
        return kind == 4 || kind == 5 ? told ^ 7 : told;
    }

    private static final int[][][] BODIES = {
        {{1}, {2, 1}, {3, 2, 1}},
        {{11, 1}, {2, 11, 1}, {3, 2, 11, 1}},
        {{11, 1}, {2, 11, 1}, {41, 3, 2, 11, 1, 11, 1}},
        {{1}, {21, 2, 1}, {3, 21, 2, 1}},
        {{1}, {2, 1}, {31, 3, 2, 1}},
        {{1}, {61, 2, 1}, {31, 3, 61, 2, 1}},
        {{51, 11, 1}, {2, 51, 11, 1}, {3, 2, 51, 11, 1}}};

    private static void trace(String what, KettleBeats x, int... bodies) {
        due("bodies of " + what, x.count(5), bodies.length);
        due("ahead of the first, " + what, x.trace(-1), NONE);
        for (int i = 0; i < bodies.length; i++) {
            due("body " + i + " of " + what, x.trace(i), bodies[i]);
        }
        due("behind the last, " + what, x.trace(bodies.length), NONE);
        due("the 20th, " + what, x.trace(19), NONE);
        due("the 21st, " + what, x.trace(20), NONE);
    }

    private static void actsWrap() {
        int third = HIGH / 3;
        int[] ins = {LOW, LOW + 1, LOW / 2, -third - 1, -third, -10, -1, 0, 1, 2, 10, third, third + 1, HIGH / 2, HIGH / 2 + 1, HIGH - 9, HIGH - 1, HIGH};
        for (int kind = 0; kind <= 6; kind++) {
            for (int number = 0; number < 8; number++) {
                KettleBeats x = new KettleBeats();
                int v = number % 2 == 0 ? 9 : 0;
                for (int i = 0; i <= number; i++) {
                    x.pause(kind, 0, 0, v);
                }
                for (int in : ins) {
                    String call = " of kind " + kind + ", " + in;
                    due("draws" + call, x.act(number, 0, in), (int) drawn(kind, in, number));
                    due("rises" + call, x.act(number, 1, in), (int) risen(kind, in, number, v));
                    due("tells" + call, x.act(number, 2, in), (int) told(kind, in, number, v));
                }
                for (int act = 0; act < 3; act++) {
                    x.act(number, act, 5);
                    trace("act " + act + " of kind " + kind, x, BODIES[kind][act]);
                }
            }
        }
    }

    private static void actsByLiteral() {
        KettleBeats x = new KettleBeats();
        for (int kind = 0; kind <= 6; kind++) {
            x.pause(kind, 0, 0, 5);
        }
        x.pause(0, 0, 0, 5);
        due("x and i, wrapping", x.act(7, 0, HIGH), LOW + 6);
        due("less v, wrapping", x.act(0, 1, LOW), HIGH - 4);
        due("times 2, wrapping", x.act(0, 2, 1 << 30), LOW - 10);
        due("times 3, wrapping", x.act(1, 0, HIGH), HIGH - 1);
        due("times 3, wrapping", x.act(1, 0, LOW), LOW + 1);
        due("less 1, wrapping", x.act(2, 2, LOW), -6 + 4 - 10 + 8);
        due("of LOW the other sign", x.act(3, 1, LOW + 2), LOW);
        due("and 7", x.act(4, 2, 0), 2 * (4 - 5) ^ 7);
        due("less v, and v", x.act(5, 1, HIGH - 4), LOW);
        due("and i", x.act(6, 0, 0), 0);
        due("and i", x.act(6, 0, 1), 9 ^ 6);
    }

    // ---- "THE TRACE: the numbers of the bodies that ran in the latest act(), as they began; the first 20 are kept."

    private static void traceOfTheLatest() {
        KettleBeats x = new KettleBeats();
        trace("a new object", x);
        x.pause(2, 0, 0, 0);
        x.pause(0, 0, 0, 0);
        trace("no act yet", x);
        for (int i = 0; i < 3; i++) {
            // Seven are the most that any act runs.
            x.act(0, 2, 9);
            trace("the longest", x, 41, 3, 2, 11, 1, 11, 1);
            x.act(1, 0, 9);
            trace("the shortest", x, 1);
            x.act(1, 1, 9);
            trace("two", x, 2, 1);
        }
        x.drawn(0, 0);
        x.pause(9, 0, 0, 0);
        trace("no other call's", x, 2, 1);
        due("far below", x.trace(LOW), NONE);
        due("far above", x.trace(HIGH), NONE);
    }

    // ---- "0, and no TRACE then: no such BREAK, act."

    private static void traceOfARefusedAct() {
        KettleBeats x = new KettleBeats();
        due("of no break", x.act(0, 0, 5), 0);
        trace("no break", x);
        for (int i = 0; i < 8; i++) {
            x.pause(2, 0, 0, 0);
        }
        int[][] wrongs = {{-1, 0}, {8, 0}, {0, -1}, {7, 3}, {LOW, 1}, {HIGH, 1}, {0, LOW}, {0, HIGH}, {8, 3}};
        for (int[] wrong : wrongs) {
            due("break 7", x.act(7, 0, 5), 22);
            trace("break 7", x, 11, 1);
            due("act " + wrong[1] + " of " + wrong[0], x.act(wrong[0], wrong[1], 5), 0);
            trace("a refused act", x);
        }
    }

    // ---- "THE IMAGE: all that there is (but THE IMAGE and THE TRACE)." - "STATE: there is none."

    private static void imageOfNothing() {
        KettleBeats x = new KettleBeats();
        due("no image", x.undo(), STATE);
        x.pause(0, 0, 0, 0);
        due("still none", x.undo(), STATE);
        due("undo took nothing", x.count(0), 1);
        due("an image of one", x.image(), 1);
        due("undo", x.undo(), 1);
        due("undo again", x.undo(), 1);
        KettleBeats empty = new KettleBeats();
        due("an image of nothing", empty.image(), 0);
        due("undo of nothing", empty.undo(), 0);
    }

    /** As many of all as there may be, each of its own. */
    private static void fill(KettleBeats x, int n) {
        for (int i = 0; i < 5; i++) {
            Checks.law(x, "draw " + (10 * n + i) + "0 a=0");
            x.work(i, 10 * n + i, 40, n);
            x.call(i, i, 30 + n);
        }
        for (int i = 0; i < 8; i++) {
            x.pause(n, 38, 10 * n + i, n);
            x.later(i, i < 4 ? 10 : n, i < 4 ? 0 : 10 - n);
        }
        for (int i = 0; i < 20; i++) {
            x.row(10 * n + i);
        }
        for (int i = 0; i < 3; i++) {
            x.set(i, 2 * n);
        }
        for (int i = 0; i < 15; i++) {
            x.feed(0x6d6f_7374_2031_3233L, 8);
        }
    }

    /** By 1. */
    private static void isFilled(String what, KettleBeats x) {
        int[] counts = {8, 5, 5, 20, 120};
        for (int i = 0; i < counts.length; i++) {
            due("count of " + i + what, x.count(i), counts[i]);
        }
        due("made by all" + what, x.made(8), 60);
        due("made by the last" + what, x.made(38), 14);
        due("made behind it" + what, x.made(39), 0);
        due("costs" + what, x.costs(), 155);
        for (int i = 0; i < 8; i++) {
            due("kind" + what, x.of(i, 0), 1);
            due("tick" + what, x.of(i, 1), 38);
            due("size" + what, x.of(i, 2), 10 + i);
            due("v" + what, x.of(i, 3), 1);
        }
        due("no ninth break" + what, x.pause(0, 0, 0, 0), FULL);
        due("no sixth work" + what, x.work(0, 1, 1, 0), FULL);
        due("no sixth law" + what, x.law(), FULL);
        due("no 21st number" + what, x.row(0), FULL);
        due("no 121st byte" + what, x.feed(0, 1), FULL);
        // 140 percent of 5 HEADS; of the last number, 29, as of 21 HEADS. The others are off in all.
        due("drawn" + what, x.drawn(0, 38), 7);
        due("watched at 19" + what, x.watched(19, 0), 42);
        due("watched at 19, off" + what, x.watched(19, 1), 361);
    }

    private static void imageOfAllThatIsFull() {
        KettleBeats x = new KettleBeats();
        fill(x, 1);
        isFilled(", filled", x);
        due("an image", x.image(), 8);
        isFilled(", with an image", x);
        for (int i = 0; i < 5; i++) {
            x.call(i, 3, 1);
        }
        for (int i = 0; i < 8; i++) {
            x.later(i, 10, 0);
        }
        for (int i = 0; i < 3; i++) {
            x.set(i, 1);
        }
        x.row(-100);
        for (int i = 0; i < 20; i++) {
            x.row(99 - i);
        }
        due("undo", x.undo(), 8);
        isFilled(", again", x);
        // Four may be later, whatever is made by then: a fifth is one too many.
        due("odds", x.sure(999, 0), 0);
        due("odds of four", x.later(0, 9, 1), 1);
        due("odds of five", x.sure(999, 0), KettleBeats.NO);
        due("cold", x.set(0, 2), 2);
        due("channels", x.set(1, 2), 2);
        due("inertia", x.set(2, 2), 2);
    }

    private static void imageOfAllThatIsEmpty() {
        KettleBeats x = new KettleBeats();
        due("an image of nothing", x.image(), 0);
        fill(x, 1);
        isFilled(", filled", x);
        due("undo", x.undo(), 0);
        for (int i = 0; i < 5; i++) {
            due("count of " + i, x.count(i), 0);
        }
        due("no law", x.demand(0), -10001);
        due("no break", x.of(0, 0), NONE);
        due("no work", x.call(0, 0, 0), NONE);
        due("nothing made", x.made(8), 0);
        due("no costs", x.costs(), 0);
        due("an empty tape", x.law(), -10);
        due("cold", x.set(0, 0), 0);
        due("channels", x.set(1, 1), 1);
        due("inertia", x.set(2, 100), 100);
        fill(x, 2);
        due("filled otherwise", x.count(0), 8);
        due("filled otherwise", x.of(7, 2), 27);
        due("undo again", x.undo(), 0);
        x.work(0, 99, 40, 9);
        due("a new work is not called", x.costs(), 0);
    }

    /** The tape's last byte counts: another one stands there in between. */
    private static void tapeOfTheImage() {
        KettleBeats x = new KettleBeats();
        x.pause(0, 0, 50, 0);
        String text = "draw 100 a=9" + "|a=9".repeat(26) + "|a=";
        Checks.feed(x, text + "0");
        x.image();
        x.law();
        due("by the last byte", x.drawn(0, 0), 50);
        Checks.feed(x, text + "1");
        x.undo();
        due("the tape", x.count(4), 120);
        due("its law", x.law(), 0);
        due("by the last byte again", x.drawn(0, 0), 50);
        due("not by the other", x.drawn(0, 1), 0);
    }

    private static void imageIsTheLatest() {
        tapeOfTheImage();
        KettleBeats x = new KettleBeats();
        for (int i = 0; i < 8; i++) {
            due("an image of " + i, x.image(), i);
            x.pause(0, i, i, 0);
        }
        due("undo to the latest", x.undo(), 7);
        x.pause(1, 9, 9, 9);
        due("another eighth", x.of(7, 0), 1);
        due("undo to it again", x.undo(), 7);
        due("seven", x.count(0), 7);
        due("an image behind an undo", x.image(), 7);
        // Odds: how likely 1 later is in THE IMAGE by itself.
        KettleBeats odds = Checks.withLaw(AT_ONCE);
        odds.pause(0, 38, 50, 0);
        odds.later(0, 0, 10);
        odds.image();
        odds.later(0, 0, 0);
        due("2 later, not seen", odds.sure(0, 0), 1);
        odds.undo();
        due("1 later again", odds.sure(0, 0), 0);
        // What is in THE IMAGE is not changed by what comes behind it.
        KettleBeats y = Checks.withLaw(AT_ONCE);
        y.pause(0, 38, 50, 0);
        y.work(0, 7, 40, 1);
        y.call(0, 3, 4);
        y.image();
        for (int i = 0; i < 3; i++) {
            y.call(0, 8, 9);
            y.later(0, 0, 0);
            due("called anew", y.costs(), 9);
            due("later", y.sure(9, 0), 1);
            due("undo", y.undo(), 1);
            due("called as it was", y.costs(), 4);
            due("made as it was", y.made(3), 7);
            due("at its tick", y.worst(3, 1), 0);
        }
    }

    private static void imageKeepsNoTrace() {
        KettleBeats x = new KettleBeats();
        x.pause(2, 0, 0, 0);
        x.act(0, 0, 5);
        x.image();
        trace("an image changes no trace", x, 11, 1);
        x.act(0, 1, 5);
        x.undo();
        trace("undo brings no trace back", x, 2, 11, 1);
        x.act(0, 3, 5);
        x.undo();
        trace("undo brings none back, where there is none", x);
    }
}
