/** A test or more for each promise: ordinary inputs, the edges that the document names, wrong inputs. */
public final class PromisesTest {
    private static final int NONE = KettleBeats.NONE, BAD = KettleBeats.BAD, STATE = KettleBeats.STATE, FULL = KettleBeats.FULL;
    private static final long NO = KettleBeats.NO;
    private static final int LOW = Integer.MIN_VALUE, HIGH = Integer.MAX_VALUE;
    /** Every break draws its HEADS at its own TICK, and nothing else. */
    private static final String AT_ONCE = "draw 100 a=0";

    private PromisesTest() {
    }

    public static void main(String[] args) {
        newObject();
        pause();
        of();
        set();
        later();
        feed();
        lawFaults();
        lawsAreKept();
        lawHolds();
        percent();
        drawnByKinds();
        drawnEdges();
        drawnRefused();
        demand();
        work();
        call();
        made();
        costs();
        beat();
        first();
        wave();
        inertia();
        best();
        bestOfMany();
        sure();
        sureWithWorks();
        worst();
        beside();
        besideLagStore();
        pump();
        row();
        watched();
        waits();
        act();
        trace();
        as();
        image();
        undo();
        count();
        Checks.close();
    }

    private static void due(String call, long got, long want) {
        Checks.due(call, got, want);
    }

    // ---- 1: a new object

    private static void newObject() {
        KettleBeats x = new KettleBeats();
        for (int what = 0; what <= 5; what++) {
            due("1 count " + what, x.count(what), 0);
        }
        due("1 no law", x.demand(0), -10001);
        due("1 made", x.made(0), 0);
        due("1 costs", x.costs(), 0);
        due("1 no image", x.undo(), STATE);
        due("1 no trace", x.trace(0), NONE);
        due("1 cold", x.set(0, 3), 0);
        due("1 channels", x.set(1, 3), 1);
        due("1 inertia", x.set(2, 3), 100);
        due("1 NO", NO, Long.MIN_VALUE);
    }

    // ---- 2: pause

    private static void pause() {
        KettleBeats x = new KettleBeats();
        due("2 kind -1", x.pause(-1, 0, 0, 0), NONE);
        due("2 kind 7", x.pause(7, 0, 0, 0), NONE);
        due("2 kind ahead", x.pause(7, -1, -1, -1), NONE);
        due("2 tick -1", x.pause(0, -1, 0, 0), BAD);
        due("2 tick 40", x.pause(0, 40, 0, 0), BAD);
        due("2 size -1", x.pause(0, 0, -1, 0), BAD);
        due("2 size 100", x.pause(0, 0, 100, 0), BAD);
        due("2 v -1", x.pause(0, 0, 0, -1), BAD);
        due("2 v 10", x.pause(0, 0, 0, 10), BAD);
        due("2 refused", x.count(0), 0);
        due("2 least", x.pause(0, 0, 0, 0), 0);
        due("2 most", x.pause(6, 39, 99, 9), 1);
        for (int i = 2; i < 8; i++) {
            due("2 number", x.pause(i - 2, i, i, i), i);
        }
        due("2 full", x.pause(0, 0, 0, 0), FULL);
        due("2 bad ahead of full", x.pause(0, 40, 0, 0), BAD);
        due("2 none ahead of full", x.pause(HIGH, 0, 0, 0), NONE);
        due("2 eight", x.count(0), 8);
    }

    // ---- 3: of

    private static void of() {
        KettleBeats x = new KettleBeats();
        due("3 none yet", x.of(0, 0), NONE);
        x.pause(3, 17, 44, 8);
        x.pause(6, 39, 99, 9);
        due("3 kind", x.of(0, 0), 3);
        due("3 tick", x.of(0, 1), 17);
        due("3 size", x.of(0, 2), 44);
        due("3 v", x.of(0, 3), 8);
        due("3 second", x.of(1, 1), 39);
        due("3 what -1", x.of(0, -1), NONE);
        due("3 what 4", x.of(0, 4), NONE);
        due("3 pause -1", x.of(-1, 0), NONE);
        due("3 pause 2", x.of(2, 0), NONE);
        due("3 far", x.of(LOW, HIGH), NONE);
        ofEachKindAtEachNumber();
    }

    private static void ofEachKindAtEachNumber() {
        for (int first = 0; first < 7; first++) {
            KettleBeats x = new KettleBeats();
            for (int i = 0; i < 8; i++) {
                x.pause((first + i) % 7, 30 - i, 50 + i, 9 - i);
            }
            for (int i = 0; i < 8; i++) {
                due("3 kind of " + i, x.of(i, 0), (first + i) % 7);
                due("3 tick of " + i, x.of(i, 1), 30 - i);
                due("3 size of " + i, x.of(i, 2), 50 + i);
                due("3 v of " + i, x.of(i, 3), 9 - i);
            }
        }
    }

    // ---- 4: set

    private static void set() {
        KettleBeats x = new KettleBeats();
        due("4 cold", x.set(0, 9), 0);
        due("4 cold was", x.set(0, 0), 9);
        due("4 channels", x.set(1, 9), 1);
        due("4 channels was", x.set(1, 1), 9);
        due("4 inertia", x.set(2, 999), 100);
        due("4 inertia was", x.set(2, 1), 999);
        due("4 cold -1", x.set(0, -1), BAD);
        due("4 cold 10", x.set(0, 10), BAD);
        due("4 channels 0", x.set(1, 0), BAD);
        due("4 channels 10", x.set(1, 10), BAD);
        due("4 inertia 0", x.set(2, 0), BAD);
        due("4 inertia 1000", x.set(2, 1000), BAD);
        due("4 what -1", x.set(-1, -1), NONE);
        due("4 what 3", x.set(3, 1), NONE);
        due("4 kept cold", x.set(0, 5), 0);
        due("4 kept channels", x.set(1, 5), 1);
        due("4 kept inertia", x.set(2, 5), 1);
    }

    // ---- 5: later

    private static void later() {
        KettleBeats x = Checks.withLaw(AT_ONCE);
        due("5 none yet", x.later(0, 5, 5), NONE);
        x.pause(0, 38, 50, 0);
        due("5 none ahead", x.later(1, -1, 0), NONE);
        due("5 now -1", x.later(0, -1, 5), BAD);
        due("5 one -1", x.later(0, 5, -1), BAD);
        due("5 both 11", x.later(0, 6, 5), BAD);
        due("5 now 11", x.later(0, 11, 0), BAD);
        due("5 together 10 but below 0", x.later(0, 11, -1), BAD);
        due("5 wraps", x.later(0, HIGH, HIGH), BAD);
        due("5 lowest", x.later(0, LOW, LOW), BAD);
        due("5 still sure to come", x.sure(4, 0), 0);
        // Behind tick 39 it is not seen, and THE BEAT HOLDS by 4.
        due("5 two later", x.later(0, 0, 0), 1);
        due("5 sure now", x.sure(4, 0), 1);
        due("5 one later", x.later(0, 0, 10), 1);
        due("5 seen at 39", x.worst(4, 0), 39);
        due("5 at once", x.later(0, 10, 0), 1);
        due("5 seen at 38", x.worst(4, 0), 38);
        due("5 mixed", x.later(0, 3, 3), 1);
        due("5 mixed above", x.sure(4, 0), 2);
        due("5 mixed below", x.sure(4, 1), 5);
        due("5 demand as if at its tick", x.demand(38), 50);
    }

    // ---- 6: feed

    private static void feed() {
        KettleBeats x = new KettleBeats();
        due("6 n 0", x.feed(1, 0), BAD);
        due("6 n 9", x.feed(1, 9), BAD);
        due("6 n low", x.feed(1, LOW), BAD);
        due("6 n high", x.feed(1, HIGH), BAD);
        due("6 nothing came", x.count(4), 0);
        // "most" and " 5", with bytes above that do not count.
        due("6 four", x.feed(0x7f_6d6f_7374L, 4), 4);
        due("6 two", x.feed(0xffff_ffff_ffff_2035L, 2), 6);
        due("6 read in order", x.law(), 0);
        for (int i = 1; i <= 14; i++) {
            due("6 eights", x.feed(-1L, 8), 8 * i);
        }
        due("6 five", x.feed(0, 5), 117);
        due("6 no room for four", x.feed(0, 4), FULL);
        due("6 stays", x.count(4), 117);
        due("6 bad ahead of full", x.feed(0, 9), BAD);
        due("6 three", x.feed(0, 3), 120);
        due("6 no room for one", x.feed(0, 1), FULL);
        due("6 all of it is read", x.law(), -10);
        due("6 empty then", x.feed(0, 1), 1);
    }

    // ---- 7: law

    private static void fault(String text, int place) {
        KettleBeats x = new KettleBeats();
        due("7 fault of '" + text + "'", Checks.law(x, text), -10 - place);
        due("7 no law", x.count(2), 0);
        due("7 tape is empty", x.count(4), 0);
    }

    private static void whole(String text) {
        KettleBeats x = Checks.withLaw(text);
        due("7 a law", x.count(2), 1);
        due("7 tape is empty", x.count(4), 0);
    }

    private static void lawFaults() {
        wordFaults();
        numberFaults();
        expressionFaults();
        openFaults();
        String seven = "most 1;most 1;most 1;most 1;most 1;most 1;most 1;";
        whole(seven + "most 1");
        fault(seven + "most 1;", 55);
        fault(seven + "most 1;most 1", 55);
        fault(seven + "most 1x", 55);
        fault(seven, 49);
        fault("most 1;;most 1", 7);
        whole("draw 1 a=1|a=1|a=1|a=1|a=1|a=1|a=1|a=1|a=1|a=1|a=1|a=1|a=1|a=1|a=1|a=1|a=1|a=1|a=1|a=1|a=1|a=1|a=1|a=1|a=1|a=1|a=1|a=1");
        fault("draw 1 a=1|a=1|a=1|a=1|a=1|a=1|a=1|a=1|a=1|a=1|a=1|a=1|a=1|a=1|a=1|a=1|a=1|a=1|a=1|a=1|a=1|a=1|a=1|a=1|a=1|a=1|a=1|a=1|", 119);
    }

    private static void wordFaults() {
        fault("", 0);
        fault("x", 0);
        fault("Draw 1 a=1", 0);
        fault(" draw 1 a=1", 0);
        fault("dr", 2);
        fault("drew 1 a=1", 2);
        fault("draw", 4);
        fault("drawn 1 a=1", 4);
        fault("draw ", 5);
        fault("draw  1 a=1", 5);
        fault("draw\t1 a=1", 4);
        fault("ease", 4);
        fault("eats", 2);
        fault("e", 1);
        fault("most", 4);
        fault("most ", 5);
        fault("must 1", 1);
        fault("most 1 ", 6);
        fault("most 1 a=1", 6);
        fault("draw 1", 6);
        fault("draw 1;", 6);
        fault("draw 1 ", 7);
        fault("draw 1  a=1", 7);
        fault("draw 1 a=1 ", 10);
        fault("draw 1 a=1;", 11);
        fault("draw 1 a=1; most 1", 11);
        fault("draw 1 a=1,most 1", 10);
        whole("draw 1 a=1;ease 2 c<3;most 4");
        whole("most 4;ease 2 c<3;most 5");
        whole("ease 1 k>0");
    }

    private static void numberFaults() {
        whole("draw 0 a=0");
        whole("draw 999 t<999");
        fault("draw 00 a=1", 6);
        fault("draw 01 a=1", 6);
        fault("draw 1000 a=1", 8);
        fault("draw -1 a=1", 5);
        fault("draw x a=1", 5);
        fault("most 1000", 8);
        fault("most 00", 6);
        fault("most ;", 5);
        fault("draw 1 a=", 9);
        fault("draw 1 a=x", 9);
        fault("draw 1 a=01", 10);
        fault("draw 1 a=1000", 12);
        fault("draw 1 a=100x", 12);
        fault("draw 1 a=/", 9);
        fault("draw 1 a=:", 9);
    }

    private static void expressionFaults() {
        whole("draw 1 a=1|c<2|s>3&k=4&t<5");
        fault("draw 1 b=1", 7);
        fault("draw 1 A=1", 7);
        fault("draw 1 \u00e1=1", 7);
        fault("draw 1 a", 8);
        fault("draw 1 a!1", 8);
        fault("draw 1 a==1", 9);
        fault("draw 1 a <1", 8);
        fault("draw 1 a=1|", 11);
        fault("draw 1 a=1&", 11);
        fault("draw 1 a=1||c=1", 11);
        fault("draw 1 a=1&|c=1", 11);
        fault("draw 1 a=1 | c=1", 10);
        fault("draw 1 |a=1", 7);
        fault("draw 1 a=1!c=1", 10);
        fault("draw 1 a=1(c=1)", 10);
        fault("draw 1 a=1)", 10);
        fault("draw 1 ()", 8);
        fault("draw 1 (", 8);
        fault("draw 1 (a=1", 11);
        fault("draw 1 (a=1;", 11);
        fault("draw 1 (a=1))", 12);
        fault("draw 1 !", 8);
        fault("draw 1 !;", 8);
        whole("draw 1 (a=1|c=1)&!(s=1)|t=9");
    }

    private static void openFaults() {
        whole("draw 1 !!!!!a=1");
        fault("draw 1 !!!!!!a=1", 12);
        fault("draw 1 !!!!!(a=1)", 12);
        whole("draw 1 (((((a=1)))))");
        fault("draw 1 ((((((a=1))))))", 12);
        fault("draw 1 (((((!a=1)))))", 12);
        whole("draw 1 !(!(!a=1))");
        fault("draw 1 !(!(!(a=1)))", 12);
        whole("draw 1 !!!!!a=1&!!!!!c=1|!!!!!s=1");
        whole("draw 1 (((((a=1)))))|(((((a=1)))))");
        whole("draw 1 (!!!!a=1&!!!!c=1)");
        fault("draw 1 (!!!!a=1&!!!!!c=1)", 20);
        whole("draw 1 !(a=1)&!!!!!c=1");
    }

    private static void lawsAreKept() {
        KettleBeats x = new KettleBeats();
        x.pause(0, 0, 50, 0);
        for (int i = 0; i < 5; i++) {
            due("7 number", Checks.law(x, "draw " + (i + 1) + "0 a=0"), i);
            due("7 the newest holds", x.drawn(0, 0), 5 * (i + 1));
        }
        Checks.feed(x, "nonsense");
        due("7 full ahead of all", x.law(), FULL);
        due("7 tape stays", x.count(4), 8);
        due("7 five", x.count(2), 5);
        due("7 still holds", x.drawn(0, 0), 25);
    }

    private static void lawHolds() {
        KettleBeats x = Checks.withLaw("draw 10 a=0;most 7");
        x.pause(0, 0, 50, 0);
        due("7 holds", x.drawn(0, 0), 5);
        due("7 fault", Checks.law(x, "most 1;draw 20 a=0;dry"), -10 - 21);
        due("7 the one that held holds", x.drawn(0, 0), 5);
        due("7 next", Checks.law(x, "draw 99 a=0"), 1);
        due("7 no most of the older one", x.drawn(0, 0), 49);
    }

    /** What the E of a draw says of a break of that kind, tick, size at a tick (cold 4). */
    private static void holds(String test, int kind, int tick, int size, int at, boolean want) {
        KettleBeats x = Checks.withLaw("draw 100 " + test);
        x.set(0, 4);
        x.pause(kind, tick, size, 0);
        due("7 '" + test + "'", x.drawn(0, at), want ? size : 0);
    }

    private static void percent() {
        holds("a<3", 0, 10, 50, 12, true);
        holds("a<3", 0, 10, 50, 13, false);
        holds("a=3", 0, 10, 50, 13, true);
        holds("a>3", 0, 10, 50, 13, false);
        holds("a>3", 0, 10, 50, 14, true);
        holds("c=4", 0, 10, 50, 12, true);
        holds("c<4", 0, 10, 50, 12, false);
        holds("c>3", 0, 10, 50, 12, true);
        holds("s=50", 0, 10, 50, 12, true);
        holds("s>50", 0, 10, 50, 12, false);
        holds("k=1", 1, 10, 50, 12, true);
        holds("k=0", 1, 10, 50, 12, false);
        holds("t=12", 0, 10, 50, 12, true);
        holds("t<12", 0, 10, 50, 12, false);
        holds("t>11", 0, 10, 50, 12, true);
        holds("t<999", 0, 10, 50, 39, true);
        holds("!a=2", 0, 10, 50, 12, false);
        holds("!!a=2", 0, 10, 50, 12, true);
        holds("a=2|c=9&s=9", 0, 10, 50, 12, true);
        holds("c=9&s=9|a=2", 0, 10, 50, 12, true);
        holds("(a=2|c=9)&s=9", 0, 10, 50, 12, false);
        holds("!a=2|c=4", 0, 10, 50, 12, true);
        holds("!(a=2|c=4)", 0, 10, 50, 12, false);
        holds("!a=9&c=4", 0, 10, 50, 12, true);
        holds("a=9|!(c=9|!(s=50&k=0))", 0, 10, 50, 12, true);
        holds("a<0|a=2&c=4", 0, 10, 50, 12, true);
        holds("a=2&!a<0", 0, 10, 50, 12, true);
        holds("a=2|a<0", 0, 10, 50, 12, true);
        holds("a=2&a<0", 0, 10, 50, 12, false);
        holds("a=2&c=4&s=50&k=0&t=12", 0, 10, 50, 12, true);
        holds("a=2&c=4&s=50&k=0&t=13", 0, 10, 50, 12, false);
        drawsAndEases();
    }

    private static void drawsAndEases() {
        KettleBeats eight = Checks.withLaw("draw 1 a=0;draw 2 a=0;draw 4 a=0;draw 8 a=0;draw 16 a=0;draw 32 a=0;draw 64 a=0;ease 27 a=0");
        eight.pause(0, 0, 99, 0);
        due("8 eight clauses", eight.drawn(0, 0), 99);
        KettleBeats wide = Checks.withLaw("draw 100 a=9|a=8|a=7|a=6|a=5|a=4|c=1|c=2|c=3|c=4|c=5|c=6|c=7|c=8|c=9|k=1|k=2|k=3|k=4|k=5|k=6|t=0|t=1|t=2|t=3|t=4|t=5");
        wide.pause(0, 0, 99, 0);
        due("8 all tests of a long one", wide.drawn(0, 5), 99);
        due("8 none of a long one", wide.drawn(0, 10), 0);
        KettleBeats x = Checks.withLaw("draw 60 a<3;draw 30 a<2;ease 20 a=1;ease 80 a=2");
        x.pause(0, 10, 50, 0);
        due("8 both draws", x.drawn(0, 10), 45);
        due("8 less the ease", x.drawn(0, 11), 35);
        due("8 not below 0", x.drawn(0, 12), 0);
        KettleBeats y = Checks.withLaw("most 10;draw 100 a=0;most 20;draw 30 a=1");
        y.pause(0, 10, 50, 0);
        due("8 the last most holds", y.drawn(0, 10), 20);
        due("8 below it", y.drawn(0, 11), 15);
        KettleBeats z = Checks.withLaw("draw 999 a=0;draw 999 a=0");
        z.pause(0, 10, 99, 0);
        z.pause(0, 10, 50, 0);
        due("8 999 without", z.drawn(0, 10), 999);
        due("8 more than all", z.drawn(1, 10), 999);
        KettleBeats w = Checks.withLaw("draw 999 a=0;most 0");
        w.pause(0, 10, 99, 0);
        due("8 most 0", w.drawn(0, 10), 0);
    }

    // ---- 8: drawn

    private static void drawnRow(String what, KettleBeats x, int pause, int from, int... wants) {
        for (int i = 0; i < wants.length; i++) {
            due("8 " + what + " at " + (from + i), x.drawn(pause, from + i), wants[i]);
        }
    }

    private static void drawnByKinds() {
        // The percents at ages 0, 1, 2: 50, 51, 52; t tells LATE's TICK from its AGE.
        KettleBeats x = Checks.withLaw("draw 50 a<3;draw 1 a=1;draw 2 a=2;most 40;draw 10 t=14&k=2");
        for (int kind = 0; kind <= 6; kind++) {
            x.pause(kind, 10, 70, 3);
        }
        drawnRow("BREAK", x, 0, 9, 0, 35, 35, 36, 0);
        drawnRow("WHISTLE", x, 1, 9, 0, 35, 35, 36, 0);
        drawnRow("LATE", x, 2, 9, 0, 0, 0, 0, 35, 40, 36, 0);
        drawnRow("SERIAL", x, 3, 9, 0, 38, 38, 39, 0);
        drawnRow("SILENT", x, 4, 9, 0, -70, -70, -70, 35, 35, 36, 0);
        drawnRow("SKY", x, 5, 9, 0, 70, 70, 70, 35, 35, 36, 0);
        drawnRow("SPREAD", x, 6, 9, 0, 17, 17, 18, 17, 17, 18, 0);
        x.set(1, 3);
        drawnRow("BREAK with 3 channels", x, 0, 10, 11, 11, 11);
        drawnRow("SILENT with 3 channels", x, 4, 10, -23, -23, -23, 11);
        drawnRow("SKY with 3 channels", x, 5, 10, 23, 23, 23, 11);
    }

    private static void drawnEdges() {
        KettleBeats x = Checks.withLaw("draw 100 t<20;most 30");
        x.pause(3, 10, 99, 9);
        x.pause(3, 10, 0, 9);
        x.pause(6, 10, 31, 1);
        x.pause(2, 10, 20, 0);
        x.pause(4, 10, 20, 0);
        x.pause(5, 39, 99, 9);
        x.pause(6, 18, 25, 3);
        due("8 SERIAL ahead of its tick", x.drawn(0, 9), 0);
        due("8 SERIAL above most", x.drawn(0, 10), 39);
        due("8 SERIAL of nobody", x.drawn(1, 10), 9);
        due("8 SERIAL without a percent", x.drawn(1, 20), 0);
        due("8 SPREAD halves each", x.drawn(2, 11), 30);
        KettleBeats little = Checks.withLaw("draw 1 a=0");
        little.pause(3, 0, 50, 6);
        due("8 SERIAL by 1 percent", little.drawn(0, 0), 6);
        due("8 LATE by 0", x.drawn(3, 10), 20);
        due("8 SILENT by 0", x.drawn(4, 10), 20);
        due("8 SKY whatever most is", x.drawn(5, 39), 99);
        due("8 SPREAD's own tick is over", x.drawn(6, 21), 12);
        due("8 SPREAD's both are over", x.drawn(6, 23), 0);
        KettleBeats old = Checks.withLaw("draw 100 a>2");
        old.pause(2, 0, 40, 3);
        old.pause(3, 5, 40, 3);
        due("8 LATE's age", old.drawn(0, 5), 0);
        due("8 LATE's age 3", old.drawn(0, 6), 40);
        due("8 first tick", old.drawn(0, 0), 0);
        due("8 last tick", old.drawn(0, 39), 40);
        KettleBeats always = Checks.withLaw("draw 100 a<1");
        always.pause(3, 5, 40, 3);
        always.pause(0, 5, 40, 3);
        due("8 SERIAL's age below 0", always.drawn(0, 4), 0);
        due("8 age below 0", always.drawn(1, 4), 0);
    }

    private static void drawnRefused() {
        KettleBeats x = new KettleBeats();
        x.pause(0, 0, 50, 0);
        due("8 no law", x.drawn(0, 0), -1001);
        due("8 no law ahead of bad", x.drawn(0, 40), -1001);
        Checks.law(x, AT_ONCE);
        due("8 pause -1", x.drawn(-1, 0), -1001);
        due("8 pause 1", x.drawn(1, 0), -1001);
        due("8 none ahead of bad", x.drawn(1, 40), -1001);
        due("8 tick -1", x.drawn(0, -1), -1002);
        due("8 tick 40", x.drawn(0, 40), -1002);
        due("8 low", x.drawn(0, LOW), -1002);
        due("8 drawn", x.drawn(0, 0), 50);
    }

    // ---- 9: demand

    private static void demand() {
        KettleBeats x = new KettleBeats();
        due("9 no law", x.demand(0), -10001);
        due("9 no law ahead of bad", x.demand(40), -10001);
        Checks.law(x, "draw 50 a<3");
        due("9 no breaks", x.demand(0), 0);
        x.pause(0, 0, 60, 0);
        x.pause(1, 2, 40, 0);
        x.pause(4, 1, 10, 2);
        due("9 one", x.demand(0), 30);
        due("9 less", x.demand(1), 20);
        due("9 three", x.demand(2), 40);
        due("9 last", x.demand(39), 0);
        due("9 tick -1", x.demand(-1), -10002);
        due("9 tick 40", x.demand(40), -10002);
    }

    // ---- 10: work

    private static void work() {
        KettleBeats x = new KettleBeats();
        due("10 lag -1", x.work(-1, 1, 1, 0), BAD);
        due("10 lag 10", x.work(10, 1, 1, 0), BAD);
        due("10 power 0", x.work(0, 0, 1, 0), BAD);
        due("10 power 100", x.work(0, 100, 1, 0), BAD);
        due("10 store 0", x.work(0, 1, 0, 0), BAD);
        due("10 store 41", x.work(0, 1, 41, 0), BAD);
        due("10 cost -1", x.work(0, 1, 1, -1), BAD);
        due("10 cost 100", x.work(0, 1, 1, 100), BAD);
        due("10 refused", x.count(1), 0);
        due("10 least", x.work(0, 1, 1, 0), 0);
        due("10 most", x.work(9, 99, 40, 99), 1);
        due("10 not called", x.costs(), 0);
        due("10 nothing made", x.made(0), 0);
        for (int i = 2; i < 5; i++) {
            due("10 number", x.work(1, 1, 1, 1), i);
        }
        due("10 full", x.work(1, 1, 1, 1), FULL);
        due("10 bad ahead of full", x.work(1, 1, 1, 100), BAD);
        due("10 five", x.count(1), 5);
    }

    // ---- 11: call

    private static void call() {
        KettleBeats x = new KettleBeats();
        due("11 none yet", x.call(0, 0, 0), NONE);
        x.work(2, 50, 10, 3);
        due("11 costs", x.call(0, 4, 8), 24);
        due("11 not more than the store", x.call(0, 4, 11), 30);
        due("11 most", x.call(0, 39, 40), 30);
        due("11 nothing", x.call(0, 0, 0), 0);
        due("11 nothing made", x.made(2), 0);
        due("11 anew", x.call(0, 5, 1), 3);
        due("11 work -1", x.call(-1, 0, 1), NONE);
        due("11 work 1", x.call(1, 0, 1), NONE);
        due("11 none ahead of bad", x.call(1, 40, 1), NONE);
        due("11 tick -1", x.call(0, -1, 1), BAD);
        due("11 tick 40", x.call(0, 40, 1), BAD);
        due("11 n -1", x.call(0, 0, -1), BAD);
        due("11 n 41", x.call(0, 0, 41), BAD);
        due("11 kept", x.made(7), 50);
        due("11 kept costs", x.costs(), 3);
    }

    // ---- 12: made

    private static void made() {
        KettleBeats x = new KettleBeats();
        x.work(2, 50, 3, 0);
        x.work(0, 7, 40, 0);
        x.call(0, 4, 20);
        x.call(1, 8, 40);
        due("12 ahead of the lag", x.made(5), 0);
        due("12 behind the lag", x.made(6), 50);
        due("12 both", x.made(8), 57);
        due("12 the store is empty", x.made(9), 7);
        due("12 last", x.made(39), 7);
        due("12 first", x.made(0), 0);
        x.call(0, 4, 2);
        due("12 two ticks", x.made(7), 50);
        due("12 two ticks are over", x.made(8), 7);
        due("12 tick -1", x.made(-1), BAD);
        due("12 tick 40", x.made(40), BAD);
    }

    // ---- 13: costs

    private static void costs() {
        KettleBeats x = new KettleBeats();
        x.work(9, 1, 30, 2);
        x.work(0, 1, 5, 10);
        due("13 not called", x.costs(), 0);
        x.call(0, 39, 25);
        due("13 beyond tick 39", x.costs(), 50);
        x.call(1, 0, 40);
        due("13 both, and the store", x.costs(), 100);
        x.call(1, 0, 4);
        due("13 called anew", x.costs(), 90);
        x.work(0, 99, 40, 99);
        x.call(2, 0, 40);
        due("13 three", x.costs(), 4050);
    }

    // ---- 14: beat

    private static void beat() {
        KettleBeats x = new KettleBeats();
        due("14 no law", x.beat(0), NO);
        Checks.law(x, "draw 100 a<2");
        due("14 nothing", x.beat(39), 0);
        x.pause(0, 5, 59, 0);
        due("14 ahead", x.beat(4), 0);
        // 59 times 10 by 100 is cut to 5 each time, towards 0.
        due("14 once", x.beat(5), -5);
        due("14 twice", x.beat(6), -10);
        due("14 stays", x.beat(39), -10);
        x.work(0, 39, 40, 0);
        x.call(0, 6, 3);
        due("14 with a work", x.beat(6), -7);
        due("14 up", x.beat(7), -4);
        due("14 on", x.beat(39), -1);
        x.set(2, 1);
        due("14 inertia 1", x.beat(5), -590);
        due("14 inertia 1, on", x.beat(6), -790);
        x.set(2, 999);
        due("14 inertia 999", x.beat(39), 0);
        KettleBeats atZero = Checks.withLaw(AT_ONCE);
        atZero.pause(0, 0, 50, 0);
        due("14 behind tick 0", atZero.beat(0), -5);
        due("14 tick -1", x.beat(-1), NO);
        due("14 tick 40", x.beat(40), NO);
    }

    // ---- 15: first

    private static void first() {
        KettleBeats x = new KettleBeats();
        due("15 no law", x.first(5), NONE);
        due("15 none ahead of bad", x.first(-1), NONE);
        Checks.law(x, "draw 100 a<2");
        x.pause(0, 5, 50, 0);
        due("15 at once", x.first(4), 5);
        due("15 at the bound it holds", x.first(5), 6);
        due("15 holds", x.first(10), -5);
        due("15 widest", x.first(999), -5);
        x.work(0, 99, 40, 0);
        x.call(0, 0, 1);
        due("15 above, too", x.first(8), 0);
        due("15 at the bound above", x.first(9), -5);
        due("15 least", x.first(0), 0);
        due("15 bound -1", x.first(-1), BAD);
        due("15 bound 1000", x.first(1000), BAD);
        KettleBeats last = Checks.withLaw(AT_ONCE);
        last.pause(0, 39, 10, 0);
        due("15 last tick", last.first(0), 39);
    }

    // ---- 16: wave

    private static void wave() {
        KettleBeats x = new KettleBeats();
        due("16 no law", x.wave(0), NO);
        Checks.law(x, "draw 100 a<2");
        due("16 nothing", x.wave(2), 0);
        x.pause(0, 0, 50, 0);
        due("16 lowest", x.wave(0), -10);
        due("16 highest, not the 0 ahead", x.wave(1), -5);
        due("16 wave", x.wave(2), 5);
        x.work(0, 99, 40, 0);
        x.call(0, 39, 2);
        due("16 highest at the last tick", x.wave(1), -1);
        x.call(0, 20, 3);
        due("16 highest", x.wave(1), 17);
        due("16 lowest stays", x.wave(0), -10);
        due("16 wave of both", x.wave(2), 27);
        x.call(0, 0, 2);
        due("16 lowest, not the 0 ahead", x.wave(0), 4);
        KettleBeats atZero = Checks.withLaw("draw 100 a=0;draw 60 a=1");
        atZero.pause(0, 0, 50, 0);
        due("16 highest behind tick 0", atZero.wave(1), -5);
        due("16 lowest behind tick 1", atZero.wave(0), -8);
        due("16 what -1", x.wave(-1), NO);
        due("16 what 3", x.wave(3), NO);
    }

    // ---- 17: inertia

    private static void inertia() {
        KettleBeats x = new KettleBeats();
        due("17 no law", x.inertia(0), NONE);
        due("17 none ahead of bad", x.inertia(1000), NONE);
        Checks.law(x, AT_ONCE);
        due("17 nothing to hold", x.inertia(0), 1);
        x.pause(0, 5, 50, 0);
        // 500 by 84 is 5, by 83 it is 6; by 501 it is 0.
        due("17 by 5", x.inertia(5), 84);
        due("17 by 0", x.inertia(0), 501);
        due("17 by 500", x.inertia(500), 1);
        due("17 by 499", x.inertia(499), 2);
        due("17 inertia is as it was", x.set(2, 100), 100);
        x.pause(0, 5, 50, 0);
        // 1000 by 999 is 1.
        due("17 by 0, none", x.inertia(0), -5);
        due("17 by 1", x.inertia(1), 501);
        due("17 bound -1", x.inertia(-1), BAD);
        due("17 bound 1000", x.inertia(1000), BAD);
        KettleBeats y = Checks.withLaw(AT_ONCE);
        y.pause(0, 0, 99, 0);
        y.pause(0, 0, 0, 0);
        due("17 990 by 990", y.inertia(1), 496);
        due("17 the last ones", y.inertia(0), 991);
        KettleBeats w = Checks.withLaw("draw 999 a=0;draw 999 a=0;most 998");
        w.pause(0, 0, 99, 0);
        // 9980 by 998 is 10, by 999 it is 9.
        due("17 the last one", w.inertia(9), 999);
        // By 4 it holds from 73 to 90 (1, 1, 1, 1, -4 and so on), not from 91 to 360 (0, 0, 0, 0, -3), and again from 361 on.
        KettleBeats z = Checks.withLaw("draw 100 a=4|a=9|a=14|a=19|a=24|a=29|a=34|a=39");
        z.pause(0, 0, 45, 0);
        z.work(0, 9, 40, 0);
        z.call(0, 0, 40);
        due("17 the least, if it holds in parts", z.inertia(4), 73);
    }

    // ---- 18: best

    private static void best(KettleBeats x, int work, int bound, int tick, int n, int costs) {
        due("18 tick", x.best(work, bound, 0), tick);
        due("18 n", x.best(work, bound, 1), n);
        due("18 costs", x.best(work, bound, 2), costs);
    }

    private static void best() {
        KettleBeats x = new KettleBeats();
        x.work(2, 50, 3, 7);
        due("18 no law", x.best(0, 0, 0), NONE);
        Checks.law(x, "draw 100 a<3");
        x.pause(0, 5, 50, 0);
        best(x, 0, 0, 3, 3, 21);
        // Given at 4 and 5 it goes 5, 5, 0, -5.
        best(x, 0, 5, 2, 2, 14);
        best(x, 0, 10, 0, 1, 7);
        due("18 all is as it was", x.costs(), 0);
        due("18 nothing made", x.made(5), 0);
        due("18 what -1", x.best(0, 0, -1), NONE);
        due("18 what 3", x.best(0, 0, 3), NONE);
        due("18 work -1", x.best(-1, 0, 0), NONE);
        due("18 work 1", x.best(1, 0, 0), NONE);
        due("18 none ahead of bad", x.best(0, 1000, 3), NONE);
        due("18 bound -1", x.best(0, -1, 0), BAD);
        due("18 bound 1000", x.best(0, 1000, 0), BAD);
        x.pause(0, 6, 50, 0);
        best(x, 0, 0, -5, -5, -5);
        KettleBeats y = Checks.withLaw("draw 100 a<2");
        y.pause(0, 39, 50, 0);
        y.work(0, 50, 1, 99);
        best(y, 0, 0, 39, 1, 99);
        bestOfEdges();
    }

    private static void bestOfEdges() {
        KettleBeats x = Checks.withLaw(AT_ONCE);
        x.work(0, 60, 5, 4);
        due("18 it would hold without", x.first(5), -5);
        best(x, 0, 5, -5, -5, -5);
        best(x, 0, 6, 0, 1, 4);
        x.pause(0, 0, 60, 0);
        best(x, 0, 0, 0, 1, 4);
        x.work(9, 99, 5, 4);
        x.call(0, 0, 1);
        // Beyond tick 39 it is not seen, but costs.
        best(x, 1, 0, 31, 1, 8);
    }

    private static void bestOfMany() {
        KettleBeats x = Checks.withLaw("draw 100 a<20");
        x.pause(0, 9, 50, 0);
        x.work(9, 50, 40, 0);
        x.work(0, 1, 40, 4);
        // Its 10 by 100 is cut to 0, but it costs.
        x.call(1, 0, 2);
        best(x, 0, 0, 0, 20, 8);
        x.call(0, 5, 9);
        best(x, 0, 0, 0, 20, 8);
        due("18 its call is as it was", x.made(14), 50);
        Checks.law(x, "draw 100 a<21");
        best(x, 0, 0, -5, -5, -5);
        best(x, 0, 5, 0, 20, 8);
        // An empty store: 2 ticks are all that it gives, and the n is the least one.
        KettleBeats y = Checks.withLaw("draw 100 a<2");
        y.pause(0, 20, 50, 0);
        y.work(3, 50, 2, 5);
        y.call(0, 0, 40);
        best(y, 0, 0, 17, 2, 10);
        // Other works are as they are: the first one fills in what the second one lacks.
        y.work(0, 50, 40, 9);
        y.call(0, 17, 1);
        best(y, 1, 0, 21, 1, 14);
    }

    // ---- 19: sure

    private static void sure(KettleBeats x, int bound, int above, int below) {
        due("19 above by " + bound, x.sure(bound, 0), above);
        due("19 below by " + bound, x.sure(bound, 1), below);
    }

    private static void sure() {
        KettleBeats x = new KettleBeats();
        due("19 no law", x.sure(0, 0), NO);
        Checks.law(x, AT_ONCE);
        sure(x, 0, 1, 1);
        x.pause(0, 38, 50, 0);
        sure(x, 4, 0, 1);
        sure(x, 5, 1, 1);
        x.later(0, 5, 3);
        sure(x, 4, 1, 5);
        x.pause(0, 38, 50, 0);
        sure(x, 4, 0, 1);
        x.later(1, 0, 5);
        // By 4: both two later. By 5: not both at ticks that are seen, 8 by 10 times 5 by 10.
        sure(x, 4, 1, 10);
        sure(x, 5, 3, 5);
        x.later(0, 3, 0);
        x.later(1, 7, 0);
        sure(x, 4, 21, 100);
        x.pause(0, 38, 50, 0);
        x.pause(0, 38, 50, 0);
        x.later(2, 9, 0);
        x.later(3, 9, 0);
        sure(x, 4, 21, 10000);
        x.pause(0, 0, 0, 0);
        sure(x, 4, 21, 10000);
        x.later(4, 9, 1);
        x.pause(0, 0, 0, 0);
        due("19 five may be later", x.sure(4, 0), NO);
        due("19 five may be later", x.sure(4, 1), NO);
        x.later(4, 10, 0);
        x.later(3, 0, 10);
        sure(x, 4, 0, 1);
        due("19 bound -1", x.sure(-1, 0), NO);
        due("19 bound 1000", x.sure(1000, 0), NO);
        due("19 part -1", x.sure(0, -1), NO);
        due("19 part 2", x.sure(0, 2), NO);
    }

    private static void sureWithWorks() {
        KettleBeats x = Checks.withLaw(AT_ONCE);
        x.pause(0, 0, 50, 0);
        x.work(0, 50, 40, 0);
        x.call(0, 0, 1);
        sure(x, 0, 1, 1);
        x.later(0, 7, 2);
        // Made at tick 0, drawn at 0, 1 or 2.
        sure(x, 0, 7, 10);
        sure(x, 4, 7, 10);
        sure(x, 5, 1, 1);
        x.set(2, 50);
        sure(x, 5, 7, 10);
        x.call(0, 1, 1);
        sure(x, 0, 1, 5);
        x.call(0, 0, 0);
        sure(x, 9, 0, 1);
        due("20 first at tick 0", x.worst(9, 0), 0);
    }

    // ---- 20: worst

    private static void worst(KettleBeats x, int bound, int first, int way) {
        due("20 first by " + bound, x.worst(bound, 0), first);
        due("20 way by " + bound, x.worst(bound, 1), way);
    }

    private static void worst() {
        KettleBeats x = new KettleBeats();
        due("20 no law", x.worst(0, 0), NONE);
        Checks.law(x, AT_ONCE);
        worst(x, 0, -5, -5);
        x.work(0, 99, 1, 0);
        x.call(0, 3, 1);
        worst(x, 8, 3, 0);
        x.call(0, 3, 0);
        x.pause(0, 38, 50, 0);
        x.pause(0, 38, 50, 0);
        x.later(0, 5, 3);
        x.later(1, 0, 5);
        worst(x, 4, 38, 1);
        worst(x, 5, 39, 1);
        worst(x, 10, -5, -5);
        x.later(0, 0, 5);
        worst(x, 4, 39, 11);
        x.later(1, 0, 0);
        worst(x, 4, 39, 12);
        x.later(0, 0, 0);
        worst(x, 4, -5, -5);
        x.later(0, 9, 0);
        worst(x, 4, 38, 2);
        x.pause(0, 5, 50, 0);
        x.later(2, 0, 0);
        worst(x, 4, 7, 22);
        worst(x, 5, 38, 22);
        x.pause(0, 9, 0, 0);
        worst(x, 5, 38, 220);
        x.pause(0, 9, 0, 0);
        x.later(3, 9, 1);
        x.later(4, 0, 10);
        due("20 five may be later", x.worst(5, 0), -9);
        due("20 five may be later", x.worst(5, 1), -9);
        due("20 bad ahead of too many", x.worst(1000, 0), BAD);
        due("20 none ahead of bad", x.worst(1000, 2), NONE);
        x.later(3, 10, 0);
        worst(x, 5, 38, 2201);
        due("20 what -1", x.worst(5, -1), NONE);
        due("20 what 2", x.worst(5, 2), NONE);
        due("20 bound -1", x.worst(-1, 0), BAD);
        due("20 bound 1000", x.worst(1000, 0), BAD);
    }

    // ---- 21: beside

    private static void beside() {
        KettleBeats x = new KettleBeats();
        x.work(0, 50, 40, 0);
        due("21 no law", x.beside(0, 0, 1, 0), NONE);
        due("21 none ahead of bad", x.beside(0, -1, 0, -1), NONE);
        Checks.law(x, AT_ONCE);
        x.pause(0, 5, 50, 0);
        // -5 behind tick 5: with r 4 it gives 5 at each of the m ticks behind it.
        due("21 at once", x.beside(0, 4, 2, 4), 5);
        due("21 holds", x.beside(0, 4, 2, 5), -5);
        due("21 too long", x.beside(0, 4, 3, 5), 8);
        due("21 not below -r", x.beside(0, 5, 3, 5), -5);
        due("21 longest", x.beside(0, 4, 20, 94), 25);
        due("21 longest holds", x.beside(0, 4, 20, 95), -5);
        // Its CALL is led over; the call stays.
        x.call(0, 0, 40);
        due("21 instead of its call", x.beside(0, 4, 2, 5), -5);
        due("21 the call stays", x.made(0), 50);
        x.work(0, 10, 40, 0);
        x.call(1, 0, 3);
        due("21 others as they are", x.beside(0, 4, 20, 2), 2);
        // 3, behind tick 5 -2, and then 3, 8, 13.
        due("21 beside the others", x.beside(0, 1, 3, 12), 8);
        due("21 beside the others", x.beside(0, 1, 3, 13), -5);
        due("21 work -1", x.beside(-1, 0, 1, 0), NONE);
        due("21 work 2", x.beside(2, 0, 1, 0), NONE);
        due("21 r -1", x.beside(0, -1, 1, 0), BAD);
        due("21 r 1000", x.beside(0, 1000, 1, 0), BAD);
        due("21 m 0", x.beside(0, 0, 0, 0), BAD);
        due("21 m 21", x.beside(0, 0, 21, 0), BAD);
        due("21 bound -1", x.beside(0, 0, 1, -1), BAD);
        due("21 bound 1000", x.beside(0, 0, 1, 1000), BAD);
        due("21 widest", x.beside(0, 999, 20, 999), -5);
    }

    private static void besideLagStore() {
        KettleBeats x = Checks.withLaw(AT_ONCE);
        x.pause(0, 5, 50, 0);
        x.work(2, 50, 40, 0);
        x.work(2, 50, 2, 0);
        // Below behind 5, 6 and 7: with m 2 it is to give at 8, 9; 9, 10; 10, 11.
        due("21 lag", x.beside(0, 4, 2, 5), 10);
        due("21 lag, on", x.beside(0, 4, 2, 14), 11);
        due("21 each tick but once", x.beside(0, 4, 2, 15), -5);
        due("21 store", x.beside(1, 4, 2, 5), -5);
        due("21 store", x.beside(1, 4, 2, 4), 5);
        x.work(2, 50, 3, 0);
        due("21 store of three", x.beside(2, 4, 2, 9), 10);
        due("21 store of three", x.beside(2, 4, 2, 10), -5);
        // -5 behind 5, below 0 as well: due at 6.
        x.work(0, 50, 40, 0);
        due("21 r 0", x.beside(3, 0, 2, 4), 5);
        due("21 r 0", x.beside(3, 0, 2, 5), -5);
        due("21 r 0", x.beside(3, 0, 3, 5), 8);
        KettleBeats y = Checks.withLaw("draw 100 a=0|a=10");
        y.pause(0, 5, 50, 0);
        y.work(0, 50, 1, 0);
        // The store is for all of it: the second -5 is no more met.
        due("21 the store is given once", y.beside(0, 4, 1, 4), 5);
        due("21 the store is given once", y.beside(0, 4, 1, 5), -5);
        y.pause(0, 6, 50, 0);
        due("21 given at tick 6 alone", y.beside(0, 4, 1, 9), 15);
    }

    // ---- 22: pump

    private static void pump() {
        KettleBeats x = new KettleBeats();
        due("22 no law", x.pump(0, 0), NONE);
        due("22 none ahead of bad", x.pump(0, 5), NONE);
        Checks.law(x, "draw 100 a<2;draw 10 a=1");
        due("22 nothing", x.pump(3, 3), 0);
        x.pause(0, 4, 50, 0);
        due("22 none between", x.pump(0, 4), 5);
        due("22 k 0", x.pump(9, 0), 5);
        due("22 one", x.pump(1, 1), 6);
        due("22 not felt by tick 39", x.pump(9, 4), 0);
        due("22 felt late", x.pump(8, 4), 37);
        Checks.law(x, "draw 100 a<2");
        due("22 of several the first", x.pump(0, 0), 4);
        due("22 shifted", x.pump(5, 3), 19);
        due("22 pump -1", x.pump(-1, 0), NONE);
        due("22 pump 10", x.pump(10, 0), NONE);
        due("22 k -1", x.pump(0, -1), BAD);
        due("22 k 5", x.pump(0, 5), BAD);
        KettleBeats one = Checks.withLaw(AT_ONCE);
        one.pause(0, 0, 1, 0);
        one.pause(0, 1, 2, 0);
        due("22 at tick 1", one.pump(0, 0), 1);
        due("22 one behind", one.pump(1, 1), 2);
        KettleBeats small = Checks.withLaw(AT_ONCE);
        small.pause(0, 0, 1, 0);
        due("22 little is more than nothing", small.pump(1, 1), 1);
        KettleBeats y = Checks.withLaw("draw 0 a=0");
        y.pause(4, 0, 50, 9);
        y.pause(4, 9, 50, 9);
        y.pause(4, 18, 50, 9);
        due("22 below 0 at first", y.pump(0, 0), 27);
        due("22 0 ahead of tick 0", y.pump(1, 1), 0);
        y.pause(4, 27, 50, 9);
        y.pause(4, 36, 40, 9);
        due("22 never as much as 0", y.pump(0, 4), 36);
    }

    // ---- 23: row

    private static void row() {
        KettleBeats x = new KettleBeats();
        due("23 empty", x.row(-100), 0);
        due("23 least", x.row(-99), 1);
        due("23 most", x.row(999), 2);
        due("23 -101", x.row(-101), BAD);
        due("23 1000", x.row(1000), BAD);
        due("23 low", x.row(LOW), BAD);
        due("23 two", x.count(3), 2);
        for (int i = 3; i <= 20; i++) {
            due("23 how many", x.row(i), i);
        }
        due("23 full", x.row(0), FULL);
        due("23 bad ahead of full", x.row(1000), BAD);
        due("23 twenty", x.count(3), 20);
        due("23 empty, if full", x.row(-100), 0);
        due("23 none", x.count(3), 0);
        due("23 anew", x.row(0), 1);
    }

    // ---- 24: watched

    private static void watched(KettleBeats x, int tick, int size, int off) {
        due("24 size by " + tick, x.watched(tick, 0), size);
        due("24 off by " + tick, x.watched(tick, 1), off);
    }

    private static void watched() {
        KettleBeats x = new KettleBeats();
        due("24 no law", x.watched(0, 0), NONE);
        due("24 none ahead of bad", x.watched(40, 0), NONE);
        Checks.law(x, "draw 50 a<2&k=0");
        watched(x, 0, 0, 0);
        x.row(10);
        x.row(20);
        watched(x, 0, 20, 10);
        watched(x, 1, 40, 10);
        watched(x, 2, 0, 30);
        watched(x, 39, 0, 30);
        x.row(-7);
        watched(x, 1, 0, 37);
        x.row(-100);
        x.row(200);
        watched(x, 0, 98, 151);
        x.set(1, 2);
        watched(x, 0, 96, 176);
        x.set(1, 1);
        Checks.law(x, "draw 100 s<10;draw 20 s>9");
        x.row(-100);
        x.row(9);
        watched(x, 0, 9, 0);
        x.row(-100);
        x.row(12);
        watched(x, 0, 60, 0);
        Checks.law(x, "draw 100 t=3&c=2");
        x.row(0);
        x.row(0);
        x.row(33);
        watched(x, 2, 0, 45);
        x.set(0, 2);
        watched(x, 2, 33, 12);
        Checks.law(x, "draw 100 a=0");
        x.row(-100);
        x.row(-3);
        watched(x, 0, 0, 3);
        x.row(1);
        watched(x, 1, 1, 3);
        x.row(98);
        watched(x, 2, 98, 4);
        x.row(99);
        watched(x, 3, 99, 102);
        x.row(999);
        watched(x, 4, 99, 3 + 1 + 98 + 99 + 900);
        due("24 what -1", x.watched(0, -1), NONE);
        due("24 what 2", x.watched(0, 2), NONE);
        due("24 tick -1", x.watched(-1, 0), BAD);
        due("24 tick 40", x.watched(40, 0), BAD);
        due("24 no break comes of it", x.count(0), 0);
    }

    // ---- 25: waits

    private static void waits(KettleBeats x, int a, int b, int ticks, int worth) {
        due("25 ticks", x.waits(a, b, 0), ticks);
        due("25 worth", x.waits(a, b, 1), worth);
    }

    private static void waits() {
        KettleBeats x = new KettleBeats();
        x.pause(0, 5, 50, 0);
        x.pause(1, 5, 30, 0);
        due("25 no law", x.waits(0, 1, 0), NONE);
        due("25 none ahead of bad", x.waits(0, 0, 0), NONE);
        Checks.law(x, "draw 100 a<2");
        waits(x, 0, 1, 2, 30);
        waits(x, 1, 0, 2, 30);
        Checks.law(x, "draw 100 a<9");
        waits(x, 0, 1, 9, 30);
        Checks.law(x, "draw 100 a<10");
        waits(x, 0, 1, 0, 0);
        Checks.law(x, "draw 100 a<2&t<40");
        x.pause(6, 7, 40, 0);
        waits(x, 0, 1, 4, 30);
        waits(x, 2, 1, 4, 30);
        // The third one alone cannot mend the first two.
        waits(x, 0, 2, 0, 0);
        due("25 all is as it was", x.demand(5), 80);
        due("25 a -1", x.waits(-1, 0, 0), NONE);
        due("25 a 3", x.waits(3, 0, 0), NONE);
        due("25 b -1", x.waits(0, -1, 0), NONE);
        due("25 b 3", x.waits(0, 3, 0), NONE);
        due("25 what -1", x.waits(0, 1, -1), NONE);
        due("25 what 2", x.waits(0, 0, 2), NONE);
        due("25 one break", x.waits(2, 2, 0), BAD);
        KettleBeats y = Checks.withLaw(AT_ONCE);
        y.pause(0, 39, 50, 0);
        y.pause(0, 39, 30, 0);
        waits(y, 0, 1, 1, 30);
        KettleBeats w = Checks.withLaw(AT_ONCE);
        w.pause(0, 0, 50, 0);
        w.pause(0, 0, 30, 0);
        w.pause(0, 1, 25, 0);
        waits(w, 0, 1, 2, 30);
        waits(w, 0, 2, 0, 0);
        waits(w, 2, 1, 2, 30);
        KettleBeats z = Checks.withLaw("draw 100 a=0|t=3");
        z.pause(0, 0, 10, 0);
        z.pause(0, 1, 10, 0);
        // The second one draws at tick 3, too, as long as it has come by then.
        waits(z, 0, 1, 3, 10);
    }

    // ---- 26, 27: act, trace

    private static void acts(KettleBeats x, int pause, int act, int in, int out, int... bodies) {
        String call = "26 act " + act + " of kind " + pause;
        due(call, x.act(pause, act, in), out);
        due(call + ", bodies", x.count(5), bodies.length);
        for (int i = 0; i < bodies.length; i++) {
            due(call + ", body " + i, x.trace(i), bodies[i]);
        }
        due(call + ", no more", x.trace(bodies.length), NONE);
    }

    private static KettleBeats withEachKind() {
        KettleBeats x = new KettleBeats();
        for (int kind = 0; kind <= 6; kind++) {
            x.pause(kind, 0, 0, 3);
        }
        return x;
    }

    private static void act() {
        KettleBeats x = withEachKind();
        acts(x, 0, 0, 10, 10, 1);
        acts(x, 0, 1, 10, 7, 2, 1);
        acts(x, 0, 2, 10, 14, 3, 2, 1);
        acts(x, 1, 0, 10, 31, 11, 1);
        acts(x, 1, 1, 10, 28, 2, 11, 1);
        acts(x, 1, 2, 10, 56, 3, 2, 11, 1);
        acts(x, 2, 0, 10, 32, 11, 1);
        acts(x, 2, 1, 10, 29, 2, 11, 1);
        acts(x, 2, 2, 10, 60, 41, 3, 2, 11, 1, 11, 1);
        acts(x, 3, 0, 10, 13, 1);
        acts(x, 3, 1, 10, -10, 21, 2, 1);
        acts(x, 3, 2, 10, -20, 3, 21, 2, 1);
        acts(x, 4, 0, 10, 14, 1);
        acts(x, 4, 1, 10, 11, 2, 1);
        acts(x, 4, 2, 10, 17, 31, 3, 2, 1);
        acts(x, 5, 0, 10, 15, 1);
        acts(x, 5, 1, 10, 15, 61, 2, 1);
        acts(x, 5, 2, 10, 25, 31, 3, 61, 2, 1);
        acts(x, 6, 0, 10, 34, 51, 11, 1);
        acts(x, 6, 1, 10, 31, 2, 51, 11, 1);
        acts(x, 6, 2, 10, 62, 3, 2, 51, 11, 1);
        acts(x, 1, 0, HIGH, 2147483646, 11, 1);
        acts(x, 4, 0, HIGH, LOW + 3, 1);
        acts(x, 0, 2, LOW, -6, 3, 2, 1);
        acts(x, 3, 1, LOW, LOW, 21, 2, 1);
        acts(x, 6, 3, 10, 0);
        x.act(2, 2, 1);
        acts(x, 6, -1, 10, 0);
        x.act(2, 2, 1);
        acts(x, 7, 0, 10, 0);
        x.act(2, 2, 1);
        acts(x, -1, 0, 10, 0);
    }

    private static void trace() {
        KettleBeats x = withEachKind();
        due("27 none yet", x.trace(0), NONE);
        x.act(2, 2, 0);
        due("27 last", x.trace(6), 1);
        due("27 first", x.trace(0), 41);
        due("27 i -1", x.trace(-1), NONE);
        due("27 i 7", x.trace(7), NONE);
        due("27 i high", x.trace(HIGH), NONE);
        x.act(0, 0, 0);
        due("27 the latest act alone", x.trace(0), 1);
        due("27 the latest act alone", x.trace(1), NONE);
    }

    // ---- 28: as

    private static void as() {
        KettleBeats x = new KettleBeats();
        for (int kind = 0; kind <= 6; kind++) {
            x.pause(kind, 0, 0, kind + 1);
        }
        int[] ways = {0b0000001, 0b0000011, 0b0000111, 0b0001001, 0b0010001, 0b0110001, 0b1000011};
        for (int kind = 0; kind <= 6; kind++) {
            for (int k = 0; k <= 6; k++) {
                boolean under = (ways[kind] >> k & 1) == 1;
                due("28 kind " + kind + " as " + k, x.as(kind, k), under ? kind + 1 : -6);
            }
        }
        due("28 k -1", x.as(0, -1), NONE);
        due("28 k 7", x.as(0, 7), NONE);
        due("28 pause -1", x.as(-1, 0), NONE);
        due("28 pause 7", x.as(7, 0), NONE);
    }

    // ---- 29, 30: image, undo

    private static void image() {
        KettleBeats x = new KettleBeats();
        due("29 of nothing", x.image(), 0);
        x.pause(0, 0, 0, 0);
        x.pause(0, 0, 0, 0);
        due("29 of two", x.image(), 2);
        due("29 nothing changes", x.count(0), 2);
        x.pause(0, 0, 0, 0);
        due("30 back to two", x.undo(), 2);
        due("30 two", x.count(0), 2);
    }

    private static void undo() {
        KettleBeats x = Checks.withLaw("draw 50 a<2");
        due("30 no image", x.undo(), STATE);
        x.pause(0, 38, 80, 4);
        x.later(0, 6, 4);
        x.work(0, 40, 40, 3);
        x.call(0, 2, 5);
        x.row(12);
        x.row(30);
        x.set(0, 3);
        x.set(1, 2);
        x.set(2, 50);
        Checks.feed(x, "most");
        x.act(0, 1, 5);
        due("29 image", x.image(), 1);
        for (int again = 0; again < 2; again++) {
            change(x);
            due("30 undo", x.undo(), 1);
            isAsTheImage(x);
        }
        due("30 the law's number", Checks.law(x, " 5"), 1);
        due("30 the tape", x.drawn(0, 38), 0);
        due("30 undo again", x.undo(), 1);
        isAsTheImage(x);
    }

    private static void change(KettleBeats x) {
        x.later(0, 0, 10);
        x.pause(3, 1, 1, 1);
        x.later(1, 1, 1);
        x.work(1, 1, 1, 1);
        x.call(0, 7, 9);
        x.call(1, 1, 1);
        x.row(-100);
        x.row(-5);
        x.set(0, 9);
        x.set(1, 9);
        x.set(2, 9);
        x.law();
        Checks.law(x, "draw 99 a<9");
        Checks.feed(x, "dry");
        due("30 a trace", x.act(1, 2, 1), -2);
    }

    private static void isAsTheImage(KettleBeats x) {
        due("30 breaks", x.count(0), 1);
        due("30 works", x.count(1), 1);
        due("30 laws", x.count(2), 1);
        due("30 row", x.count(3), 2);
        due("30 tape", x.count(4), 4);
        due("30 not the trace", x.count(5), 4);
        due("30 not the trace", x.trace(1), 21);
        due("30 call", x.made(2), 40);
        due("30 call", x.made(7), 0);
        due("30 costs", x.costs(), 15);
        due("30 drawn", x.drawn(0, 38), 20);
        // Half of 39 is cut: 24 by 48, and 60 by 50; off 12 and 30 by tick 0, if 2 channels.
        due("30 watched", x.watched(0, 0), 48);
        due("30 watched off", x.watched(0, 1), 18);
        // 10 times 40 by 50 in 5 ticks: 40; less 4 at 38 and 39 each, the second one not seen if it comes later.
        due("30 beat", x.beat(37), 40);
        due("30 beat", x.beat(39), 32);
        due("30 odds", x.worst(39, 1), 0);
        // With no work it goes -4, -8, or with odds of 4 by 10 0, -4.
        x.call(0, 0, 0);
        due("30 odds, above", x.sure(4, 0), 2);
        due("30 odds, below", x.sure(4, 1), 5);
        x.undo();
        due("30 cold", x.set(0, 3), 3);
        due("30 channels", x.set(1, 2), 2);
        due("30 inertia", x.set(2, 50), 50);
    }

    // ---- 31: count

    private static void count() {
        KettleBeats x = Checks.withLaw("most 5");
        x.pause(0, 0, 0, 0);
        x.pause(0, 0, 0, 0);
        for (int i = 0; i < 3; i++) {
            x.work(0, 1, 1, 0);
        }
        for (int i = 0; i < 4; i++) {
            x.row(i);
        }
        x.feed(0, 5);
        x.act(0, 2, 0);
        due("31 breaks", x.count(0), 2);
        due("31 works", x.count(1), 3);
        due("31 laws", x.count(2), 1);
        due("31 row", x.count(3), 4);
        due("31 tape", x.count(4), 5);
        due("31 bodies", x.count(5), 3);
        due("31 what -1", x.count(-1), NONE);
        due("31 what 6", x.count(6), NONE);
    }
}
