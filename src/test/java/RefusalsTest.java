import java.util.function.Supplier;
import java.util.function.ToLongFunction;

/** Each refused call: its answer, which of several refusals is told, and that it changes nothing. */
public final class RefusalsTest {
    private static final int NONE = KettleBeats.NONE, BAD = KettleBeats.BAD, STATE = KettleBeats.STATE, FULL = KettleBeats.FULL;
    private static final long NO = KettleBeats.NO;
    private static final int LOW = Integer.MIN_VALUE, HIGH = Integer.MAX_VALUE;

    private RefusalsTest() {
    }

    public static void main(String[] args) {
        changesAreSeen();
        newObjectRefusals();
        pause();
        of();
        set();
        later();
        feed();
        law();
        drawnAndDemand();
        work();
        call();
        made();
        beatAndWave();
        firstAndInertia();
        best();
        sure();
        worst();
        beside();
        pump();
        row();
        watched();
        waits();
        act();
        traceAndAs();
        undoAndCount();
        Checks.close();
    }

    // ---- the objects that refuse

    private static KettleBeats empty() {
        return new KettleBeats();
    }

    /** Three breaks, two works, a row, a begun tape, an image: all but a law. */
    private static KettleBeats lawless() {
        KettleBeats x = new KettleBeats();
        x.pause(0, 5, 60, 3);
        x.pause(4, 7, 50, 3);
        x.image();
        x.pause(6, 9, 40, 3);
        x.later(1, 5, 3);
        x.work(1, 40, 9, 3);
        x.work(2, 30, 6, 5);
        x.call(0, 3, 5);
        x.row(12);
        x.row(40);
        x.row(7);
        x.set(0, 4);
        x.set(2, 60);
        Checks.feed(x, "draw 70 a<2");
        x.act(2, 2, 5);
        return x;
    }

    /** As lawless, and two laws, so that there is room for more of all. */
    private static KettleBeats some() {
        KettleBeats x = lawless();
        x.law();
        Checks.law(x, "draw 60 a<3;draw 10 c=4&a=3;most 33");
        Checks.feed(x, "draw 80 a<2");
        x.call(1, 8, 4);
        return x;
    }

    /** As many of all as there may be; four breaks may be later. */
    private static KettleBeats full() {
        KettleBeats x = some();
        for (int i = 3; i < 8; i++) {
            x.pause(i - 3, 3 * i, 10 * i, i);
            x.later(i, i < 6 ? 4 : 10, 0);
        }
        for (int i = 2; i < 5; i++) {
            x.work(i, 20, 10, i);
            x.call(i, 5 * i, 7);
        }
        x.law();
        Checks.law(x, "draw 40 a<5");
        Checks.law(x, "draw 55 a<4");
        for (int i = 3; i < 20; i++) {
            x.row(i);
        }
        for (int i = 0; i < 15; i++) {
            x.feed(0x6472_6177_2031_2061L, 8);
        }
        x.image();
        x.call(0, 9, 2);
        return x;
    }

    /** Five breaks that may be later. */
    private static KettleBeats uncertain() {
        KettleBeats x = full();
        x.later(0, 9, 1);
        return x;
    }

    // ---- what is asked of a refusal

    private static void refused(String call, Supplier<KettleBeats> maker, ToLongFunction<KettleBeats> asked, long want) {
        KettleBeats x = maker.get();
        KettleBeats twin = maker.get();
        Checks.due(call, asked.applyAsLong(x), want);
        Checks.due(call + " leaves THE TRACE", Traits.ofTrace(x), Traits.ofTrace(twin));
        Checks.due(call + " changes nothing", Traits.of(x), Traits.of(twin));
    }

    private static void inSomeAndFull(String call, ToLongFunction<KettleBeats> asked, long want) {
        refused(call, RefusalsTest::some, asked, want);
        refused(call + ", all full", RefusalsTest::full, asked, want);
    }

    private static void lawlessToo(String call, ToLongFunction<KettleBeats> asked, long want) {
        inSomeAndFull(call, asked, want);
        refused(call + ", no law", RefusalsTest::lawless, asked, want);
    }

    // ---- a test of these tests: what is not refused is seen

    private static void seen(String call, ToLongFunction<KettleBeats> asked) {
        KettleBeats x = some();
        KettleBeats twin = some();
        asked.applyAsLong(x);
        boolean differs = !Traits.of(x).equals(Traits.of(twin));
        Checks.due(call + " is seen", differs ? 1 : 0, 1);
    }

    private static void changesAreSeen() {
        seen("pause", x -> x.pause(0, 0, 0, 0));
        seen("a cold", x -> x.set(0, 5));
        seen("channels", x -> x.set(1, 2));
        seen("an inertia", x -> x.set(2, 61));
        seen("odds", x -> x.later(1, 5, 4));
        seen("odds of a sure one", x -> x.later(0, 5, 5));
        seen("a byte", x -> x.feed('x', 1));
        seen("a law", x -> x.law());
        seen("a work", x -> x.work(0, 1, 1, 0));
        seen("a call", x -> x.call(0, 3, 4));
        seen("a call's tick", x -> x.call(0, 4, 5));
        seen("a number", x -> x.row(0));
        seen("an empty row", x -> x.row(-100));
        seen("an image", x -> x.image());
        seen("undo", x -> x.undo());
    }

    // ---- ahead of all else: a new object has nothing

    private static void newObjectRefusals() {
        refused("of a new object: of", RefusalsTest::empty, x -> x.of(0, 0), NONE);
        refused("of a new object: later", RefusalsTest::empty, x -> x.later(0, 10, 0), NONE);
        refused("of a new object: law", RefusalsTest::empty, x -> x.law(), -10);
        refused("of a new object: drawn", RefusalsTest::empty, x -> x.drawn(0, 0), -1001);
        refused("of a new object: demand", RefusalsTest::empty, x -> x.demand(0), -10001);
        refused("of a new object: call", RefusalsTest::empty, x -> x.call(0, 0, 0), NONE);
        refused("of a new object: beat", RefusalsTest::empty, x -> x.beat(0), NO);
        refused("of a new object: first", RefusalsTest::empty, x -> x.first(0), NONE);
        refused("of a new object: wave", RefusalsTest::empty, x -> x.wave(0), NO);
        refused("of a new object: inertia", RefusalsTest::empty, x -> x.inertia(0), NONE);
        refused("of a new object: best", RefusalsTest::empty, x -> x.best(0, 0, 0), NONE);
        refused("of a new object: sure", RefusalsTest::empty, x -> x.sure(0, 0), NO);
        refused("of a new object: worst", RefusalsTest::empty, x -> x.worst(0, 0), NONE);
        refused("of a new object: beside", RefusalsTest::empty, x -> x.beside(0, 0, 1, 0), NONE);
        refused("of a new object: pump", RefusalsTest::empty, x -> x.pump(0, 0), NONE);
        refused("of a new object: watched", RefusalsTest::empty, x -> x.watched(0, 0), NONE);
        refused("of a new object: waits", RefusalsTest::empty, x -> x.waits(0, 0, 0), NONE);
        refused("of a new object: act", RefusalsTest::empty, x -> x.act(0, 0, 0), 0);
        refused("of a new object: trace", RefusalsTest::empty, x -> x.trace(0), NONE);
        refused("of a new object: as", RefusalsTest::empty, x -> x.as(0, 0), NONE);
        refused("of a new object: undo", RefusalsTest::empty, x -> x.undo(), STATE);
    }

    // ---- breaks, laws

    private static void pause() {
        for (int wrong : new int[] {LOW, -1, 7, HIGH}) {
            lawlessToo("pause of kind " + wrong, x -> x.pause(wrong, 0, 0, 0), NONE);
            lawlessToo("pause of kind " + wrong + ", bad tick", x -> x.pause(wrong, 40, 0, 0), NONE);
            lawlessToo("pause of kind " + wrong + ", bad size", x -> x.pause(wrong, 0, 100, 0), NONE);
            lawlessToo("pause of kind " + wrong + ", bad v", x -> x.pause(wrong, 0, 0, 10), NONE);
        }
        for (int wrong : new int[] {LOW, -1, 40, HIGH}) {
            lawlessToo("pause at tick " + wrong, x -> x.pause(0, wrong, 0, 0), BAD);
        }
        for (int wrong : new int[] {LOW, -1, 100, HIGH}) {
            lawlessToo("pause of size " + wrong, x -> x.pause(6, 39, wrong, 9), BAD);
        }
        for (int wrong : new int[] {LOW, -1, 10, HIGH}) {
            lawlessToo("pause of v " + wrong, x -> x.pause(3, 39, 99, wrong), BAD);
        }
        for (int kind = 0; kind <= 6; kind++) {
            int each = kind;
            refused("a ninth break of kind " + kind, RefusalsTest::full, x -> x.pause(each, 1, 1, 1), FULL);
        }
    }

    private static void of() {
        for (int wrong : new int[] {LOW, -1, 8, HIGH}) {
            lawlessToo("of break " + wrong, x -> x.of(wrong, 0), NONE);
        }
        refused("of the break behind the last", RefusalsTest::some, x -> x.of(3, 0), NONE);
        for (int wrong : new int[] {LOW, -1, 4, HIGH}) {
            lawlessToo("of what " + wrong, x -> x.of(0, wrong), NONE);
            lawlessToo("of no break what " + wrong, x -> x.of(8, wrong), NONE);
        }
    }

    private static void set() {
        for (int wrong : new int[] {LOW, -1, 3, HIGH}) {
            lawlessToo("set what " + wrong, x -> x.set(wrong, 1), NONE);
            lawlessToo("set what " + wrong + ", bad n", x -> x.set(wrong, -1), NONE);
            lawlessToo("set what " + wrong + ", bad n", x -> x.set(wrong, 1000), NONE);
        }
        for (int wrong : new int[] {LOW, -1, 10, HIGH}) {
            lawlessToo("set cold " + wrong, x -> x.set(0, wrong), BAD);
        }
        for (int wrong : new int[] {LOW, -1, 0, 10, HIGH}) {
            lawlessToo("set channels " + wrong, x -> x.set(1, wrong), BAD);
        }
        for (int wrong : new int[] {LOW, -1, 0, 1000, HIGH}) {
            lawlessToo("set inertia " + wrong, x -> x.set(2, wrong), BAD);
        }
    }

    private static void later() {
        for (int wrong : new int[] {LOW, -1, 8, HIGH}) {
            lawlessToo("later of break " + wrong, x -> x.later(wrong, 5, 5), NONE);
            lawlessToo("later of break " + wrong + ", bad odds", x -> x.later(wrong, -1, 12), NONE);
        }
        refused("later of the break behind the last", RefusalsTest::some, x -> x.later(3, 5, 5), NONE);
        int[][] odds = {{-1, 0}, {0, -1}, {-1, -1}, {-1, 5}, {5, -1}, {11, 0}, {0, 11}, {10, 1}, {1, 10}, {6, 5}, {5, 6},
            {11, -1}, {-1, 11}, {12, -2}, {LOW, 0}, {0, LOW}, {HIGH, 0}, {0, HIGH}, {HIGH, HIGH}, {LOW, LOW}, {HIGH, LOW}, {LOW, HIGH}};
        for (int[] wrong : odds) {
            lawlessToo("later by " + wrong[0] + ", " + wrong[1], x -> x.later(1, wrong[0], wrong[1]), BAD);
        }
    }

    private static void feed() {
        for (int wrong : new int[] {LOW, -8, -1, 0, 9, 16, HIGH}) {
            // Of a full TAPE, too: BAD is told ahead of FULL.
            lawlessToo("feed of " + wrong, x -> x.feed(0x3132_3334_3536_3738L, wrong), BAD);
        }
        for (int n = 1; n <= 8; n++) {
            int each = n;
            refused("feed of " + n + " to a full tape", RefusalsTest::full, x -> x.feed(0x3132_3334_3536_3738L, each), FULL);
            refused("feed of " + n + " to all but a full tape", () -> room(each - 1), x -> x.feed(0, each), FULL);
            KettleBeats fits = room(n);
            Checks.due("feed of " + n + " fits", fits.feed(0, n), 120);
        }
    }

    /** An object with room for so many bytes. */
    private static KettleBeats room(int bytes) {
        KettleBeats x = empty();
        for (int i = 0; i < 120 - bytes; i++) {
            x.feed('7', 1);
        }
        return x;
    }

    private static void law() {
        refused("a sixth law", RefusalsTest::full, KettleBeats::law, FULL);
        refused("a sixth law, ahead of a fault", RefusalsTest::fullButTheTape, KettleBeats::law, FULL);
        refused("a sixth law, which would be one", RefusalsTest::fullWithLaw, KettleBeats::law, FULL);
        // A FAULT changes THE TAPE alone: it is empty, as ahead of what came to it.
        refused("a fault", RefusalsTest::fourLaws, RefusalsTest::faulty, -10 - 12);
    }

    private static KettleBeats fullButTheTape() {
        KettleBeats x = fourLaws();
        Checks.law(x, "most 9");
        return x;
    }

    private static KettleBeats fullWithLaw() {
        KettleBeats x = fullButTheTape();
        Checks.feed(x, "draw 90 a<9");
        return x;
    }

    private static KettleBeats fourLaws() {
        KettleBeats x = some();
        x.law();
        Checks.law(x, "draw 30 a<6");
        return x;
    }

    private static long faulty(KettleBeats x) {
        return Checks.law(x, "draw 99 a<9;x");
    }

    private static void drawnAndDemand() {
        for (int wrong : new int[] {LOW, -1, 8, HIGH}) {
            lawlessToo("drawn by break " + wrong, x -> x.drawn(wrong, 5), -1001);
            lawlessToo("drawn by break " + wrong + ", bad tick", x -> x.drawn(wrong, 40), -1001);
        }
        refused("drawn by the break behind the last", RefusalsTest::some, x -> x.drawn(3, 5), -1001);
        refused("drawn without a law", RefusalsTest::lawless, x -> x.drawn(0, 5), -1001);
        for (int wrong : new int[] {LOW, -1, 40, HIGH}) {
            inSomeAndFull("drawn at tick " + wrong, x -> x.drawn(0, wrong), -1002);
            refused("drawn without a law at tick " + wrong, RefusalsTest::lawless, x -> x.drawn(0, wrong), -1001);
            inSomeAndFull("demand at tick " + wrong, x -> x.demand(wrong), -10002);
            refused("demand without a law at tick " + wrong, RefusalsTest::lawless, x -> x.demand(wrong), -10001);
        }
        refused("demand without a law", RefusalsTest::lawless, x -> x.demand(0), -10001);
    }

    // ---- works, the beat

    private static void work() {
        for (int wrong : new int[] {LOW, -1, 10, HIGH}) {
            lawlessToo("work of lag " + wrong, x -> x.work(wrong, 1, 1, 0), BAD);
        }
        for (int wrong : new int[] {LOW, -1, 0, 100, HIGH}) {
            lawlessToo("work of power " + wrong, x -> x.work(9, wrong, 40, 99), BAD);
            lawlessToo("work of cost " + wrong, x -> x.work(0, 1, 1, wrong == 0 ? -2 : wrong), BAD);
        }
        for (int wrong : new int[] {LOW, -1, 0, 41, HIGH}) {
            lawlessToo("work of store " + wrong, x -> x.work(0, 99, wrong, 0), BAD);
        }
        refused("a sixth work", RefusalsTest::full, x -> x.work(0, 1, 1, 0), FULL);
    }

    private static void call() {
        for (int wrong : new int[] {LOW, -1, 5, HIGH}) {
            lawlessToo("call of work " + wrong, x -> x.call(wrong, 1, 1), NONE);
            lawlessToo("call of work " + wrong + ", bad tick", x -> x.call(wrong, 40, 1), NONE);
            lawlessToo("call of work " + wrong + ", bad n", x -> x.call(wrong, 1, 41), NONE);
        }
        refused("call of the work behind the last", RefusalsTest::some, x -> x.call(2, 1, 1), NONE);
        for (int wrong : new int[] {LOW, -1, 40, HIGH}) {
            lawlessToo("call from tick " + wrong, x -> x.call(0, wrong, 9), BAD);
        }
        for (int wrong : new int[] {LOW, -1, 41, HIGH}) {
            lawlessToo("call for " + wrong, x -> x.call(1, 9, wrong), BAD);
        }
    }

    private static void made() {
        for (int wrong : new int[] {LOW, -1, 40, HIGH}) {
            lawlessToo("made at tick " + wrong, x -> x.made(wrong), BAD);
            refused("made at tick " + wrong + " by no work", RefusalsTest::empty, x -> x.made(wrong), BAD);
        }
    }

    private static void beatAndWave() {
        for (int wrong : new int[] {LOW, -1, 40, HIGH}) {
            lawlessToo("beat behind tick " + wrong, x -> x.beat(wrong), NO);
        }
        for (int wrong : new int[] {LOW, -1, 3, HIGH}) {
            lawlessToo("wave, what " + wrong, x -> x.wave(wrong), NO);
        }
        refused("beat without a law", RefusalsTest::lawless, x -> x.beat(0), NO);
        refused("wave without a law", RefusalsTest::lawless, x -> x.wave(2), NO);
    }

    private static void firstAndInertia() {
        for (int wrong : new int[] {LOW, -1, 1000, HIGH}) {
            inSomeAndFull("first by " + wrong, x -> x.first(wrong), BAD);
            inSomeAndFull("inertia by " + wrong, x -> x.inertia(wrong), BAD);
            refused("first without a law by " + wrong, RefusalsTest::lawless, x -> x.first(wrong), NONE);
            refused("inertia without a law by " + wrong, RefusalsTest::lawless, x -> x.inertia(wrong), NONE);
        }
        refused("first without a law", RefusalsTest::lawless, x -> x.first(999), NONE);
        refused("inertia without a law", RefusalsTest::lawless, x -> x.inertia(999), NONE);
    }

    private static void best() {
        for (int wrong : new int[] {LOW, -1, 5, HIGH}) {
            lawlessToo("best of work " + wrong, x -> x.best(wrong, 9, 0), NONE);
            lawlessToo("best of work " + wrong + ", bad bound", x -> x.best(wrong, 1000, 0), NONE);
        }
        refused("best of the work behind the last", RefusalsTest::some, x -> x.best(2, 9, 0), NONE);
        for (int wrong : new int[] {LOW, -1, 3, HIGH}) {
            lawlessToo("best, what " + wrong, x -> x.best(0, 9, wrong), NONE);
            lawlessToo("best, what " + wrong + ", bad bound", x -> x.best(0, -1, wrong), NONE);
        }
        for (int wrong : new int[] {LOW, -1, 1000, HIGH}) {
            inSomeAndFull("best by " + wrong, x -> x.best(0, wrong, 0), BAD);
            refused("best without a law by " + wrong, RefusalsTest::lawless, x -> x.best(0, wrong, 0), NONE);
        }
        refused("best without a law", RefusalsTest::lawless, x -> x.best(0, 999, 0), NONE);
    }

    // ---- what may be

    private static void sure() {
        for (int wrong : new int[] {LOW, -1, 1000, HIGH}) {
            lawlessToo("sure by " + wrong, x -> x.sure(wrong, 0), NO);
        }
        for (int wrong : new int[] {LOW, -1, 2, HIGH}) {
            lawlessToo("sure, part " + wrong, x -> x.sure(9, wrong), NO);
        }
        refused("sure without a law", RefusalsTest::lawless, x -> x.sure(9, 0), NO);
        refused("sure of five, above", RefusalsTest::uncertain, x -> x.sure(9, 0), NO);
        refused("sure of five, below", RefusalsTest::uncertain, x -> x.sure(999, 1), NO);
    }

    private static void worst() {
        for (int wrong : new int[] {LOW, -1, 2, HIGH}) {
            lawlessToo("worst, what " + wrong, x -> x.worst(9, wrong), NONE);
            lawlessToo("worst, what " + wrong + ", bad bound", x -> x.worst(1000, wrong), NONE);
            refused("worst of five, what " + wrong, RefusalsTest::uncertain, x -> x.worst(9, wrong), NONE);
            refused("worst of five, what " + wrong + ", bad bound", RefusalsTest::uncertain, x -> x.worst(-1, wrong), NONE);
        }
        for (int wrong : new int[] {LOW, -1, 1000, HIGH}) {
            inSomeAndFull("worst by " + wrong, x -> x.worst(wrong, 0), BAD);
            refused("worst of five by " + wrong, RefusalsTest::uncertain, x -> x.worst(wrong, 0), BAD);
            refused("worst without a law by " + wrong, RefusalsTest::lawless, x -> x.worst(wrong, 0), NONE);
        }
        refused("worst without a law", RefusalsTest::lawless, x -> x.worst(9, 0), NONE);
        refused("worst without a law of five", RefusalsTest::lawlessAndUncertain, x -> x.worst(9, 0), NONE);
        refused("worst of five", RefusalsTest::uncertain, x -> x.worst(9, 0), -9);
        refused("worst of five, which way", RefusalsTest::uncertain, x -> x.worst(999, 1), -9);
    }

    private static KettleBeats lawlessAndUncertain() {
        KettleBeats x = lawless();
        x.pause(0, 1, 1, 1);
        x.pause(0, 1, 1, 1);
        for (int p = 0; p < 5; p++) {
            x.later(p, 1, 1);
        }
        return x;
    }

    private static void beside() {
        for (int wrong : new int[] {LOW, -1, 5, HIGH}) {
            lawlessToo("beside by work " + wrong, x -> x.beside(wrong, 0, 1, 9), NONE);
            lawlessToo("beside by work " + wrong + ", all bad", x -> x.beside(wrong, -1, 0, -1), NONE);
        }
        refused("beside by the work behind the last", RefusalsTest::some, x -> x.beside(2, 0, 1, 9), NONE);
        for (int wrong : new int[] {LOW, -1, 1000, HIGH}) {
            inSomeAndFull("beside by r " + wrong, x -> x.beside(0, wrong, 1, 9), BAD);
            inSomeAndFull("beside by bound " + wrong, x -> x.beside(0, 0, 20, wrong), BAD);
            refused("beside without a law by r " + wrong, RefusalsTest::lawless, x -> x.beside(0, wrong, 1, 9), NONE);
        }
        for (int wrong : new int[] {LOW, -1, 0, 21, HIGH}) {
            inSomeAndFull("beside for " + wrong, x -> x.beside(0, 999, wrong, 999), BAD);
        }
        refused("beside without a law", RefusalsTest::lawless, x -> x.beside(0, 0, 1, 9), NONE);
    }

    // ---- pumps, rows, waiting

    private static void pump() {
        for (int wrong : new int[] {LOW, -1, 10, HIGH}) {
            lawlessToo("pump " + wrong, x -> x.pump(wrong, 0), NONE);
            lawlessToo("pump " + wrong + ", bad k", x -> x.pump(wrong, 5), NONE);
        }
        for (int wrong : new int[] {LOW, -1, 5, HIGH}) {
            inSomeAndFull("pump, k " + wrong, x -> x.pump(9, wrong), BAD);
            refused("pump without a law, k " + wrong, RefusalsTest::lawless, x -> x.pump(9, wrong), NONE);
        }
        refused("pump without a law", RefusalsTest::lawless, x -> x.pump(0, 0), NONE);
    }

    private static void row() {
        for (int wrong : new int[] {LOW, -102, -101, 1000, HIGH}) {
            // Of a full ROW, too: BAD is told ahead of FULL.
            lawlessToo("row of " + wrong, x -> x.row(wrong), BAD);
        }
        for (int n : new int[] {-99, -1, 0, 999}) {
            refused("row of " + n + ", full", RefusalsTest::full, x -> x.row(n), FULL);
        }
    }

    private static void watched() {
        for (int wrong : new int[] {LOW, -1, 2, HIGH}) {
            lawlessToo("watched, what " + wrong, x -> x.watched(0, wrong), NONE);
            lawlessToo("watched, what " + wrong + ", bad tick", x -> x.watched(40, wrong), NONE);
        }
        for (int wrong : new int[] {LOW, -1, 40, HIGH}) {
            inSomeAndFull("watched at tick " + wrong, x -> x.watched(wrong, 0), BAD);
            refused("watched without a law at tick " + wrong, RefusalsTest::lawless, x -> x.watched(wrong, 0), NONE);
        }
        refused("watched without a law", RefusalsTest::lawless, x -> x.watched(0, 0), NONE);
    }

    private static void waits() {
        for (int wrong : new int[] {LOW, -1, 8, HIGH}) {
            lawlessToo("waits, first " + wrong, x -> x.waits(wrong, 1, 0), NONE);
            lawlessToo("waits, second " + wrong, x -> x.waits(1, wrong, 0), NONE);
            // One break, but none that there is.
            lawlessToo("waits, both " + wrong, x -> x.waits(wrong, wrong, 0), NONE);
        }
        refused("waits, first behind the last", RefusalsTest::some, x -> x.waits(3, 1, 0), NONE);
        refused("waits, second behind the last", RefusalsTest::some, x -> x.waits(1, 3, 0), NONE);
        for (int wrong : new int[] {LOW, -1, 2, HIGH}) {
            lawlessToo("waits, what " + wrong, x -> x.waits(0, 1, wrong), NONE);
            lawlessToo("waits, one break, what " + wrong, x -> x.waits(1, 1, wrong), NONE);
        }
        refused("waits without a law", RefusalsTest::lawless, x -> x.waits(0, 1, 0), NONE);
        refused("waits without a law, one break", RefusalsTest::lawless, x -> x.waits(1, 1, 0), NONE);
        for (int p = 0; p < 3; p++) {
            int each = p;
            inSomeAndFull("waits, one break " + p, x -> x.waits(each, each, 0), BAD);
            inSomeAndFull("waits, one break " + p + ", worth", x -> x.waits(each, each, 1), BAD);
        }
    }

    // ---- acts, the image

    /** A refused act leaves all but THE TRACE, which there is none of then. */
    private static void refusedAct(Supplier<KettleBeats> maker, int pause, int act) {
        String call = "act " + act + " of break " + pause;
        KettleBeats x = maker.get();
        Checks.due(call + ": a trace ahead", x.count(5) > 0 ? 1 : 0, 1);
        Checks.due(call, x.act(pause, act, 7), 0);
        Checks.due(call + ": no trace", Traits.ofTrace(x), Traits.ofTrace(empty()));
        Checks.due(call + " changes nothing else", Traits.of(x), Traits.of(maker.get()));
    }

    private static void act() {
        for (int wrong : new int[] {LOW, -1, 8, HIGH}) {
            refusedAct(RefusalsTest::lawless, wrong, 0);
            refusedAct(RefusalsTest::some, wrong, 1);
            refusedAct(RefusalsTest::full, wrong, 2);
            refusedAct(RefusalsTest::full, wrong, 3);
        }
        refusedAct(RefusalsTest::some, 3, 0);
        for (int wrong : new int[] {LOW, -1, 3, HIGH}) {
            refusedAct(RefusalsTest::lawless, 0, wrong);
            refusedAct(RefusalsTest::some, 2, wrong);
            refusedAct(RefusalsTest::full, 7, wrong);
        }
    }

    private static void traceAndAs() {
        // The latest act of some() ran 3, 2, 51, 11, 1.
        for (int wrong : new int[] {LOW, -1, 5, 19, 20, 21, HIGH}) {
            lawlessToo("trace of " + wrong, x -> x.trace(wrong), NONE);
        }
        for (int wrong : new int[] {LOW, -1, 8, HIGH}) {
            lawlessToo("as of break " + wrong, x -> x.as(wrong, 0), NONE);
            lawlessToo("as of break " + wrong + ", no kind", x -> x.as(wrong, 7), NONE);
        }
        refused("as of the break behind the last", RefusalsTest::some, x -> x.as(3, 0), NONE);
        for (int wrong : new int[] {LOW, -1, 7, HIGH}) {
            lawlessToo("as of kind " + wrong, x -> x.as(0, wrong), NONE);
        }
        lawlessToo("as of another kind", x -> x.as(0, 1), -6);
    }

    private static void undoAndCount() {
        refused("undo without an image", RefusalsTest::withoutImage, KettleBeats::undo, STATE);
        for (int wrong : new int[] {LOW, -1, 6, HIGH}) {
            lawlessToo("count of " + wrong, x -> x.count(wrong), NONE);
            refused("count of " + wrong + ", new object", RefusalsTest::empty, x -> x.count(wrong), NONE);
        }
    }

    private static KettleBeats withoutImage() {
        KettleBeats x = Checks.withLaw("draw 100 a=0");
        x.pause(3, 4, 50, 2);
        x.work(1, 9, 9, 9);
        x.call(0, 1, 1);
        x.row(5);
        x.act(0, 1, 3);
        return x;
    }
}
