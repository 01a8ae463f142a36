import java.util.function.IntPredicate;

/** What bounds the document's part 1 names: of breaks, of laws and their texts, of what is drawn. Sentence by sentence. */
public final class LawBoundsTest {
    private static final int NONE = KettleBeats.NONE, BAD = KettleBeats.BAD, FULL = KettleBeats.FULL;
    private static final int LOW = Integer.MIN_VALUE, HIGH = Integer.MAX_VALUE;

    private LawBoundsTest() {
    }

    public static void main(String[] args) {
        newObject();
        ticks();
        eightBreaks();
        kinds();
        sizesAndNumbers();
        coldAndChannels();
        tapeOfAHundredAndTwenty();
        tapeIsReadInOrder();
        clausesOneToEight();
        oneBlank();
        digits();
        tests();
        expressions();
        fiveOpen();
        faultAtEachPlace();
        faultAtEachEnd();
        fiveLaws();
        lastMostHolds();
        percentIsNotBelowZero();
        headsAndPlainAreCut();
        plainAheadOfItsTick();
        breakAndWhistle();
        late();
        serial();
        silentAndSky();
        spread();
        demandOfAll();
        Checks.close();
    }

    private static void due(String call, long got, long want) {
        Checks.due(call, got, want);
    }

    private static KettleBeats withBreak(String law, int kind, int tick, int size, int v) {
        KettleBeats x = Checks.withLaw(law);
        x.pause(kind, tick, size, v);
        return x;
    }

    // ---- "No BREAKS, no WORKS, no LAW."

    private static void newObject() {
        KettleBeats x = new KettleBeats();
        for (int what = 0; what <= 5; what++) {
            due("count of " + what, x.count(what), 0);
        }
        due("count of -1", x.count(-1), NONE);
        due("count of 6", x.count(6), NONE);
        due("costs of nothing", x.costs(), 0);
        due("made by nothing", x.made(0), 0);
        due("an image of nothing", x.image(), 0);
        due("cold", x.set(0, 0), 0);
        due("channels", x.set(1, 1), 1);
        due("inertia", x.set(2, 100), 100);
    }

    // ---- "TICKS 0 .. 39."

    private static void ticks() {
        for (int tick : new int[] {LOW, -1, 0, 39, 40, HIGH}) {
            boolean there = tick == 0 || tick == 39;
            KettleBeats x = Checks.withLaw("draw 100 a=0");
            String at = " at tick " + tick;
            due("a break" + at, x.pause(0, tick, 50, 0), there ? 0 : BAD);
            due("breaks" + at, x.count(0), there ? 1 : 0);
            due("drawn" + at, x.drawn(0, tick), there ? 50 : -1001);
            due("demand" + at, x.demand(tick), there ? 50 : -10002);
            x.work(0, 60, 1, 4);
            due("a call" + at, x.call(0, tick, 1), there ? 4 : BAD);
            due("costs" + at, x.costs(), there ? 4 : 0);
            due("made" + at, x.made(tick), there ? 60 : BAD);
            due("beat" + at, x.beat(tick), there ? 1 : KettleBeats.NO);
            due("watched" + at, x.watched(tick, 1), there ? 0 : BAD);
        }
    }

    // ---- "BREAKS are numbered from 0 on, 8 at most"

    private static void eightBreaks() {
        KettleBeats x = Checks.withLaw("draw 100 a=0");
        due("no break", x.count(0), 0);
        due("no break drawn", x.drawn(0, 0), -1001);
        for (int i = 0; i < 8; i++) {
            due("a break's number", x.pause(0, i, 10 + i, 0), i);
            due("how many breaks", x.count(0), i + 1);
            due("none behind it", x.of(i + 1, 1), NONE);
        }
        due("a ninth break", x.pause(0, 9, 19, 0), FULL);
        due("eight breaks", x.count(0), 8);
        for (int i = 0; i < 8; i++) {
            due("each has its tick", x.of(i, 1), i);
            due("each has its size", x.of(i, 2), 10 + i);
            due("each draws", x.drawn(i, i), 10 + i);
        }
    }

    // ---- "each of a KIND: 0 BREAK; 1 WHISTLE, 3 SERIAL, 4 SILENT under BREAK; 2 LATE, 6 SPREAD under WHISTLE; 5 SKY under SILENT"

    private static void kinds() {
        int[] above = {-1, 0, 1, 0, 0, 4, 1};
        for (int kind = 0; kind <= 6; kind++) {
            KettleBeats x = new KettleBeats();
            due("kind " + kind, x.pause(kind, 3, 4, 9), 0);
            due("kind is kept", x.of(0, 0), kind);
            for (int k = 0; k <= 6; k++) {
                boolean under = k == kind || k == above[kind] || above[kind] >= 0 && k == above[above[kind]];
                due("kind " + kind + " taken for " + k, x.as(0, k), under ? 9 : -6);
            }
        }
        KettleBeats x = new KettleBeats();
        due("kind -1", x.pause(-1, 0, 0, 0), NONE);
        due("kind 7", x.pause(7, 0, 0, 0), NONE);
    }

    // ---- "a SIZE (0 .. 99, who watches), a number v (0 .. 9)"

    private static void sizesAndNumbers() {
        KettleBeats x = new KettleBeats();
        due("size 0, v 0", x.pause(1, 0, 0, 0), 0);
        due("size 99, v 9", x.pause(1, 0, 99, 9), 1);
        due("size is 0", x.of(0, 2), 0);
        due("v is 0", x.of(0, 3), 0);
        due("size is 99", x.of(1, 2), 99);
        due("v is 9", x.of(1, 3), 9);
        due("size -1", x.pause(1, 0, -1, 0), BAD);
        due("size 100", x.pause(1, 0, 100, 0), BAD);
        due("v -1", x.pause(1, 0, 0, -1), BAD);
        due("v 10", x.pause(1, 0, 0, 10), BAD);
        due("two breaks", x.count(0), 2);
    }

    // ---- "It is COLD (0 .. 9; 0 at first), CHANNELS (1 .. 9; 1 at first) tells by what SIZES go."

    private static void coldAndChannels() {
        KettleBeats x = withBreak("draw 100 c=0;draw 50 c=9", 0, 0, 99, 0);
        due("cold is 0 at first", x.drawn(0, 0), 99);
        due("cold was 0", x.set(0, 9), 0);
        due("cold 9", x.drawn(0, 0), 49);
        due("cold 10", x.set(0, 10), BAD);
        due("cold -1", x.set(0, -1), BAD);
        due("cold stays", x.drawn(0, 0), 49);
        due("cold was 9", x.set(0, 0), 9);
        due("channels was 1", x.set(1, 9), 1);
        due("channels 9", x.drawn(0, 0), 11);
        due("channels 10", x.set(1, 10), BAD);
        due("channels 0", x.set(1, 0), BAD);
        due("channels stays", x.drawn(0, 0), 11);
        due("channels was 9", x.set(1, 1), 9);
        due("channels 1", x.drawn(0, 0), 99);
    }

    // ---- "A LAW is read from THE TAPE (bytes, 120 at most)"

    private static String times(String part, int n) {
        return part.repeat(n);
    }

    private static void tapeOfAHundredAndTwenty() {
        String full = "draw 100 a=9" + times("|a=9", 26) + "|a=0";
        due("a text of 120 bytes", full.length(), 120);
        KettleBeats x = withBreak(full, 0, 0, 50, 0);
        due("its last byte counts", x.drawn(0, 0), 50);
        due("its first test counts", x.drawn(0, 9), 50);
        due("and no other", x.drawn(0, 8), 0);
        due("it ends too early", Checks.law(new KettleBeats(), "draw 1 a=1" + times("|a=1", 27) + "|a"), -10 - 120);
        due("its last byte is a fault", Checks.law(new KettleBeats(), full.substring(0, 119) + "x"), -10 - 119);
        due("an empty tape", new KettleBeats().law(), -10);
        for (int n = 1; n <= 8; n++) {
            KettleBeats y = new KettleBeats();
            Checks.feed(y, full.substring(0, 120 - n));
            due("how many ahead", y.count(4), 120 - n);
            if (n < 8) {
                due("one too many", y.feed(0, n + 1), FULL);
                due("tape stays", y.count(4), 120 - n);
            }
            due("as many as go", y.feed(0x3d30_7c61_3d30_7c61L, n), 120);
            due("no more", y.feed('x', 1), FULL);
            due("all 120", y.count(4), 120);
        }
    }

    // ---- "The n lowest bytes of w, the highest first, come behind THE TAPE's: how many it has."

    private static void tapeIsReadInOrder() {
        for (int n = 1; n <= 8; n++) {
            // "most 123": its last n bytes come at once, below others that do not count.
            KettleBeats x = new KettleBeats();
            String text = "most 123";
            for (int i = 0; i < 8 - n; i++) {
                due("byte by byte", x.feed(0x7878_7878_7878_7800L | text.charAt(i), 1), i + 1);
            }
            long last = 0x6d6f_7374_2031_3233L;
            long above = n == 8 ? 0 : 0x7878_7878_7878_7878L << 8 * n;
            due("the last " + n, x.feed(above | last & (n == 8 ? -1 : (1L << 8 * n) - 1), n), 8);
            due("a law", x.law(), 0);
            due("an empty tape then", x.count(4), 0);
        }
        KettleBeats x = new KettleBeats();
        due("no byte", x.feed(0, 0), BAD);
        due("nine bytes", x.feed(0, 9), BAD);
        due("a byte 0", x.feed(0, 1), 1);
        due("is a fault", x.law(), -10);
        due("a byte 255", x.feed(-1, 1), 1);
        due("is a fault, too", x.law(), -10);
        // Only a whole byte is a sign: 'm' and 128 is none.
        due("a byte above 127", Checks.law(x, "\u00edost 1"), -10);
        due("a byte above 127 among a test's", Checks.law(x, "draw 1 a\u00bd1"), -10 - 8);
        due("a byte above 127 for a digit", Checks.law(x, "draw 1 a=\u00b1"), -10 - 9);
    }

    // ---- "CLAUSES, 1 to 8, with ; between"

    private static void law(String text, boolean whole, int fault) {
        KettleBeats x = Checks.withLaw("draw 70 a=1");
        x.pause(0, 0, 50, 0);
        due("'" + text + "'", Checks.law(x, text), whole ? 1 : -10 - fault);
        due("laws of '" + text + "'", x.count(2), whole ? 2 : 1);
        due("the tape is empty behind '" + text + "'", x.count(4), 0);
        if (!whole) {
            due("the one that held holds behind '" + text + "'", x.drawn(0, 1), 35);
        }
    }

    private static void whole(String text) {
        law(text, true, 0);
    }

    private static void fault(String text, int place) {
        law(text, false, place);
    }

    private static void clausesOneToEight() {
        for (String clause : new String[] {"draw 1 a=0", "ease 1 a=0", "most 1"}) {
            int size = clause.length();
            fault("", 0);
            fault(";", 0);
            fault(";" + clause, 0);
            whole(clause);
            fault(clause + ";", size + 1);
            fault(clause + ";;", size + 1);
            fault(clause + " ", size);
            fault(clause + ",", size);
            whole(clause + ";" + clause);
            String eight = clause + times(";" + clause, 7);
            whole(eight);
            fault(eight + ";", eight.length());
            fault(eight + ";" + clause, eight.length());
            fault(eight + ";x", eight.length());
        }
        // All eight are heard.
        KettleBeats x = withBreak("draw 1 a=0" + times(";draw 1 a=0", 7), 0, 0, 99, 0);
        Checks.law(x, "draw 50 a=0" + times(";draw 1 a=0", 7));
        due("eight draws", x.drawn(0, 0), 99 * 57 / 100);
        Checks.law(x, "most 90" + times(";draw 5 a=0", 6) + ";most 9");
        due("the eighth is a most", x.drawn(0, 0), 9);
        Checks.law(x, "draw 90 a=0" + times(";ease 5 a=0", 7));
        due("seven eases", x.drawn(0, 0), 99 * 55 / 100);
    }

    // ---- "one blank ahead of each part behind the word"

    private static void oneBlank() {
        for (String word : new String[] {"draw", "ease", "most"}) {
            fault(" " + word + " 1 a=0", 0);
            fault(word + "1", 4);
            fault(word + "  1", 5);
            fault(word + "\t1", 4);
            fault(word + "_1", 4);
        }
        for (String word : new String[] {"draw", "ease"}) {
            fault(word + " 1a=0", 6);
            fault(word + " 1  a=0", 7);
            fault(word + " 1 a=0 ", 10);
            fault(word + " 1 a =0", 8);
            fault(word + " 1 a= 0", 9);
            fault(word + " 1 a=0 |a=1", 10);
            fault(word + " 1 a=0| a=1", 11);
            fault(word + " 1 ( a=0)", 8);
            fault(word + " 1 ! a=0", 8);
        }
        fault("most 1 ", 6);
        fault("most 1 ;most 1", 6);
        fault("most 1; most 1", 7);
        fault("most 1 a=0", 6);
        fault("MOST 1", 0);
        fault("mOST 1", 1);
    }

    // ---- "n 1 to 3 digits, no 0 ahead of another"

    private static void digits() {
        for (String n : new String[] {"0", "1", "9", "10", "99", "100", "909", "999"}) {
            whole("most " + n);
            whole("draw " + n + " a=0");
            whole("ease " + n + " a=0");
            whole("draw 1 a=" + n);
            whole("draw 1 c<" + n);
            whole("draw 1 s>" + n);
            whole("draw 1 (t>" + n + ")");
        }
        // The signs / and : are just ahead of 0 and just behind 9.
        String[] wrongs = {"", "x", "-1", "+1", "00", "01", "000", "0999", "1000", "9999", "10000", "/", ":", "1/", "1:", "12/", "12:", "0/", "0:"};
        int[] places = {0, 0, 0, 0, 1, 1, 1, 1, 3, 3, 3, 0, 0, 1, 1, 2, 2, 1, 1};
        for (int i = 0; i < wrongs.length; i++) {
            fault("most " + wrongs[i] + ";most 1", 5 + places[i]);
            fault("draw " + wrongs[i] + " a=0", 5 + places[i]);
            fault("ease " + wrongs[i] + " a=0", 5 + places[i]);
            fault("draw 1 a=" + wrongs[i] + "|a=1", 9 + places[i]);
            fault("draw 1 k<" + wrongs[i] + ";most 1", 9 + places[i]);
            fault("draw 1 t>" + wrongs[i] + "&a=1", 9 + places[i]);
        }
        KettleBeats x = withBreak("draw 9 a=0;draw 90 a=1;draw 999 a=2;most 999", 0, 0, 99, 0);
        due("one digit", x.drawn(0, 0), 8);
        due("two digits", x.drawn(0, 1), 89);
        due("three digits", x.drawn(0, 2), 989);
    }

    // ---- "a TEST: a or c or s or k or t, one of < = >, a number likewise"

    /** What the test says of a value of its subject, which is told by a break of that kind, tick, size asked at a tick. */
    private static void test(char subject, int value, int[] where, int cold) {
        for (char sign : new char[] {'<', '=', '>'}) {
            for (int n : new int[] {0, value - 1, value, value + 1, 999}) {
                if (n < 0) {
                    continue;
                }
                boolean holds = sign == '<' ? value < n : sign == '=' ? value == n : value > n;
                KettleBeats x = withBreak("draw 999 " + subject + sign + n, where[0], where[1], where[2], where[0] == 3 ? 9 : 0);
                x.set(0, cold);
                due("" + subject + sign + n + " for " + value, x.drawn(0, where[3]) > 0 ? 1 : 0, holds ? 1 : 0);
            }
        }
    }

    private static void tests() {
        for (int age : new int[] {0, 1, 2, 38, 39}) {
            test('a', age, new int[] {0, 0, 99, age}, 5);
            test('a', age / 2, new int[] {0, 39 - age / 2, 99, 39}, 5);
        }
        for (int cold = 0; cold <= 9; cold++) {
            test('c', cold, new int[] {0, 3, 99, 7}, cold);
        }
        // A SERIAL draws v of an empty house, too.
        for (int size : new int[] {0, 1, 2, 50, 98, 99}) {
            test('s', size, new int[] {3, 5, size, 20}, 4);
        }
        for (int kind = 0; kind <= 6; kind++) {
            test('k', kind, new int[] {kind, 8, 99, 25}, 9);
        }
        for (int tick : new int[] {0, 1, 2, 3, 4, 38, 39}) {
            test('t', tick, new int[] {0, 0, 99, tick}, 8);
        }
        for (String wrong : new String[] {"b=1", "A=1", "x=1", "1=1", "=1", "<a"}) {
            fault("draw 1 " + wrong, 7);
        }
        for (String wrong : new String[] {"a", "a!1", "a1", "aa=1", "a:1", "a;1"}) {
            fault("draw 1 " + wrong, 8);
        }
        for (String wrong : new String[] {"a=", "a==1", "a<=1", "a=<1", "a=a", "a>(1)"}) {
            fault("draw 1 " + wrong, 9);
        }
    }

    // ---- "E: T, or T|E. T: F, or F&T. F: !F, (E), or a TEST"

    /** way: bit 0 that c=1 holds, bit 1 s=99, bit 2 t=3. */
    private static void expression(String e, IntPredicate holds) {
        for (int way = 0; way < 8; way++) {
            int size = (way & 2) != 0 ? 99 : 98;
            KettleBeats x = withBreak("draw 100 " + e, 0, 0, size, 0);
            x.set(0, way & 1);
            due(e + " by " + way, x.drawn(0, (way & 4) != 0 ? 3 : 4), holds.test(way) ? size : 0);
        }
    }

    private static boolean c(int way) {
        return (way & 1) != 0;
    }

    private static boolean s(int way) {
        return (way & 2) != 0;
    }

    private static boolean t(int way) {
        return (way & 4) != 0;
    }

    private static void expressions() {
        expression("c=1", way -> c(way));
        expression("!c=1", way -> !c(way));
        expression("!!c=1", way -> c(way));
        expression("!!!!!c=1", way -> !c(way));
        expression("c=1|s=99", way -> c(way) || s(way));
        expression("c=1&s=99", way -> c(way) && s(way));
        expression("c=1|s=99|t=3", way -> c(way) || s(way) || t(way));
        expression("c=1&s=99&t=3", way -> c(way) && s(way) && t(way));
        expression("c=1|s=99&t=3", way -> c(way) || s(way) && t(way));
        expression("c=1&s=99|t=3", way -> c(way) && s(way) || t(way));
        expression("(c=1|s=99)&t=3", way -> (c(way) || s(way)) && t(way));
        expression("c=1&(s=99|t=3)", way -> c(way) && (s(way) || t(way)));
        expression("!c=1&s=99", way -> !c(way) && s(way));
        expression("!c=1|s=99", way -> !c(way) || s(way));
        expression("!(c=1&s=99)", way -> !(c(way) && s(way)));
        expression("!(c=1|s=99)&t=3", way -> !(c(way) || s(way)) && t(way));
        expression("c=1&!s=99|!t=3", way -> c(way) && !s(way) || !t(way));
        expression("!(c=1&!(s=99|!t=3))", way -> !(c(way) && !(s(way) || !t(way))));
        expression("(c=1)", way -> c(way));
        expression("(((((c=1)))))&s=99", way -> c(way) && s(way));
        expression("(c=1|(s=99&(t=3|(c=1&(s=99)))))", way -> c(way) || s(way) && t(way));
        expression("c=0&c=1|s=99&!s=98|t=9", way -> s(way));
        fault("draw 1 a=1|", 11);
        fault("draw 1 a=1&", 11);
        fault("draw 1 |a=1", 7);
        fault("draw 1 &a=1", 7);
        fault("draw 1 a=1||a=2", 11);
        fault("draw 1 a=1&&a=2", 11);
        fault("draw 1 a=1&|a=2", 11);
        fault("draw 1 a=1|&a=2", 11);
        fault("draw 1 a=1!", 10);
        fault("draw 1 a=1(", 10);
        fault("draw 1 a=1a=1", 10);
        fault("draw 1 ()", 8);
        fault("draw 1 !)", 8);
        fault("draw 1 )", 7);
        fault("draw 1 (a=1", 11);
        fault("draw 1 (a=1;most 1", 11);
        fault("draw 1 (a=1|a=2))", 16);
    }

    // ---- "At most 5 of ! and ( are open (a ( till its ) , a ! till its F ends)."

    private static void fiveOpen() {
        // Of five signs each ! or (, and of six.
        for (int way = 0; way < 32; way++) {
            StringBuilder open = new StringBuilder();
            StringBuilder closed = new StringBuilder();
            for (int i = 0; i < 5; i++) {
                boolean bracket = (way >> i & 1) == 1;
                open.append(bracket ? '(' : '!');
                closed.append(bracket ? ")" : "");
            }
            whole("draw 1 " + open + "a=1" + closed);
            fault("draw 1 " + open + "!a=1" + closed, 12);
            fault("draw 1 " + open + "(a=1)" + closed, 12);
            // All are ended then: as many may be open again.
            whole("draw 1 " + open + "a=1" + closed + "&" + open + "a=1" + closed);
            whole("draw 1 " + open + "a=1" + closed + "|" + open + "a=1" + closed);
            whole("draw 1 " + open + "a=1" + closed + ";ease 1 " + open + "a=1" + closed);
        }
        // A ! ends with its TEST, a ( does not.
        whole("draw 1 (!a=1|!!!!a=1)");
        fault("draw 1 (!a=1|!!!!!a=1)", 17);
        whole("draw 1 !a=1&!!!!!a=1");
        whole("draw 1 (((((a=1|a=2)&a=3)|a=4)&(a=5|(a=6))))");
        whole("draw 1 ((((a=1|(a=2)))))");
        fault("draw 1 ((((a=1|(!a=2)))))", 16);
        whole("draw 1 !(a=1)&!(!(!a=2))&(((((a=3)))))");
        fault("draw 1 !(a=1)&!(!(!a=2))&((((((a=3))))))", 30);
    }

    // ---- "FAULT: the place of the first byte with which no LAW can go on (the size, if it ends too early)."

    private static final String
        LONG_LAW = "draw 10 (a<3|!c>2)&k=0;ease 5 t=19;most 450;draw 0 s>9",
        ITS_ENDS = "                 *   *          **      ***          *";

    private static void faultAtEachPlace() {
        for (int place = 0; place < LONG_LAW.length(); place++) {
            String ahead = LONG_LAW.substring(0, place);
            fault(ahead + "x", place);
            fault(ahead + "x" + LONG_LAW.substring(place + 1), place);
            fault(ahead + "x;x", place);
            fault(ahead + "\0" + LONG_LAW.substring(place), place);
            fault(ahead + "\u00ff" + LONG_LAW.substring(place), place);
        }
    }

    /** Each beginning is a law, if ITS_ENDS says so of its last byte, or ends too early. */
    private static void faultAtEachEnd() {
        for (int size = 0; size <= LONG_LAW.length(); size++) {
            boolean law = size > 0 && ITS_ENDS.charAt(size - 1) == '*';
            law(LONG_LAW.substring(0, size), law, size);
        }
    }

    // ---- "LAWS are numbered from 0 on, 5 at most." - "the newest LAW holds"

    private static void fiveLaws() {
        KettleBeats x = new KettleBeats();
        x.pause(0, 0, 50, 0);
        due("no law", x.count(2), 0);
        due("nothing drawn without one", x.drawn(0, 0), -1001);
        for (int i = 0; i < 5; i++) {
            due("a fault between", Checks.law(x, "draw 99 a=0;"), -22);
            due("a law's number", Checks.law(x, "draw " + 10 * (i + 1) + " a=0"), i);
            due("how many laws", x.count(2), i + 1);
            due("the newest holds", x.drawn(0, 0), 5 * (i + 1));
        }
        due("a sixth, ahead of its fault", x.law(), FULL);
        Checks.feed(x, "draw 90 a=0");
        due("a sixth", x.law(), FULL);
        due("the tape stays", x.count(4), 11);
        due("and has room", x.feed('1', 1), 12);
        due("five laws", x.count(2), 5);
        due("the fifth holds", x.drawn(0, 0), 25);
    }

    // ---- "Of most the last n holds (999 without)."

    private static int drawnBy(String law) {
        return withBreak(law, 0, 0, 99, 0).drawn(0, 0);
    }

    private static void lastMostHolds() {
        String much = "draw 999 a=0;draw 99 a=0";
        due("without", drawnBy(much), 999);
        due("just below 999", drawnBy("draw 999 a=0;draw 10 a=0"), 998);
        due("just 999", drawnBy("draw 999 a=0;draw 11 a=0"), 999);
        due("most 999", drawnBy(much + ";most 999"), 999);
        due("most 998", drawnBy(much + ";most 998"), 998);
        due("most 0", drawnBy(much + ";most 0"), 0);
        due("most 1", drawnBy("most 1;" + much), 1);
        due("the last of two, less", drawnBy("most 500;" + much + ";most 7"), 7);
        due("the last of two, more", drawnBy("most 7;" + much + ";most 500"), 500);
        due("the last of three", drawnBy("most 7;most 3;most 5;" + much), 5);
        due("just as much", drawnBy("draw 50 a=0;most 49"), 49);
        due("a bit less", drawnBy("draw 50 a=0;most 50"), 49);
        KettleBeats x = withBreak("most 3", 0, 0, 99, 0);
        due("a most alone draws nothing", x.drawn(0, 0), 0);
        Checks.law(x, much);
        due("a most is of its law alone", x.drawn(0, 0), 999);
    }

    // ---- "PERCENT ...: the n of all draw whose E holds, less those of all ease whose E holds, together (0 at least)."

    private static void percentIsNotBelowZero() {
        due("as much eased", drawnBy("draw 50 a=0;ease 50 a=0"), 0);
        due("one more drawn", drawnBy("draw 52 a=0;ease 50 a=0"), 1);
        due("more eased", drawnBy("draw 50 a=0;ease 999 a=0"), 0);
        due("eased alone", drawnBy("ease 999 a=0"), 0);
        due("eased ahead", drawnBy("ease 60 a=0;draw 90 a=0"), 29);
        due("eased between", drawnBy("draw 40 a=0;ease 60 a=0;draw 40 a=0"), 19);
        due("an ease that does not hold", drawnBy("draw 50 a=0;ease 50 a=1"), 49);
        due("a draw that does not hold", drawnBy("draw 50 a=0;draw 50 a=1"), 49);
        due("draw 0", drawnBy("draw 0 a=0"), 0);
        due("ease 0", drawnBy("draw 100 a=0;ease 0 a=0"), 99);
        due("seven times 999", drawnBy(times("draw 999 a=0;", 7) + "most 999"), 999);
        due("four of each", drawnBy(times("draw 999 a=0;ease 999 a=0;", 3) + "draw 999 a=0;ease 997 a=0"), 1);
    }

    // ---- "HEADS: SIZE by CHANNELS (cut). PLAIN ...: HEADS times PERCENT by 100 (cut), most at most"

    private static void headsAndPlainAreCut() {
        int[][] rows = {{0, 1, 999, 0}, {8, 9, 999, 0}, {9, 9, 100, 1}, {17, 9, 100, 1}, {18, 9, 100, 2}, {99, 9, 100, 11},
            {3, 2, 199, 1}, {3, 2, 200, 2}, {99, 2, 100, 49}, {1, 1, 99, 0}, {1, 1, 100, 1}, {99, 1, 1, 0}, {99, 1, 2, 1}, {50, 1, 1, 0}, {50, 1, 2, 1}};
        for (int[] row : rows) {
            KettleBeats x = withBreak("draw " + row[2] + " a=0", 0, 0, row[0], 0);
            x.set(1, row[1]);
            due(row[0] + " by " + row[1] + " at " + row[2], x.drawn(0, 0), row[3]);
        }
    }

    // ---- "0, if AGE is below 0"

    private static void plainAheadOfItsTick() {
        for (int kind = 0; kind <= 6; kind++) {
            KettleBeats x = withBreak("draw 100 t<40|a<40", kind, 20, 50, 4);
            due("kind " + kind + " a tick ahead", x.drawn(0, 19), 0);
            due("kind " + kind + " at tick 0", x.drawn(0, 0), 0);
        }
    }

    // ---- DRAWN by each KIND

    private static void drawnRow(String what, KettleBeats x, int from, int... wants) {
        for (int i = 0; i < wants.length; i++) {
            due(what + " at " + (from + i), x.drawn(0, from + i), wants[i]);
        }
    }

    /** Ages 0 to 3 draw 10, 20, 30, 40 of 100 percent. */
    private static final String STEPS = "draw 10 a=0;draw 20 a=1;draw 30 a=2;draw 40 a=3";

    private static void breakAndWhistle() {
        for (int kind = 0; kind <= 1; kind++) {
            for (int v = 0; v <= 9; v += 9) {
                drawnRow("kind " + kind, withBreak(STEPS, kind, 0, 90, v), 0, 9, 18, 27, 36, 0);
                drawnRow("kind " + kind, withBreak(STEPS, kind, 36, 90, v), 35, 0, 9, 18, 27, 36);
                drawnRow("kind " + kind, withBreak(STEPS, kind, 39, 90, v), 38, 0, 9);
            }
        }
    }

    private static void late() {
        drawnRow("LATE by 0", withBreak(STEPS, 2, 10, 90, 0), 9, 0, 9, 18, 27, 36, 0);
        drawnRow("LATE by 1", withBreak(STEPS, 2, 10, 90, 1), 9, 0, 0, 9, 18, 27, 36, 0);
        drawnRow("LATE by 9", withBreak(STEPS, 2, 10, 90, 9), 18, 0, 9, 18, 27, 36, 0);
        drawnRow("LATE by 9 at tick 30", withBreak(STEPS, 2, 30, 90, 9), 38, 0, 9);
        drawnRow("LATE by 9 at tick 31", withBreak(STEPS, 2, 31, 90, 9), 38, 0, 0);
        drawnRow("LATE, not its TICK", withBreak("draw 100 a=0&t=13", 2, 10, 90, 3), 10, 0, 0, 0, 90, 0);
        drawnRow("LATE, not its TICK", withBreak("draw 100 a=0&t=10", 2, 10, 90, 3), 10, 0, 0, 0, 0, 0);
    }

    private static void serial() {
        drawnRow("SERIAL by 0", withBreak(STEPS, 3, 10, 90, 0), 9, 0, 9, 18, 27, 36, 0);
        drawnRow("SERIAL by 9", withBreak(STEPS, 3, 10, 90, 9), 9, 0, 18, 27, 36, 45, 0);
        drawnRow("SERIAL above most", withBreak(STEPS + ";most 20", 3, 10, 90, 9), 9, 0, 18, 27, 29, 29, 0);
        drawnRow("SERIAL above a most of 0", withBreak(STEPS + ";most 0", 3, 10, 90, 9), 9, 0, 9, 9, 9, 9, 0);
        drawnRow("SERIAL above 999", withBreak("draw 999 a=0;draw 999 a=0", 3, 10, 99, 9), 9, 0, 1008, 0);
        drawnRow("SERIAL of 1 percent", withBreak("draw 1 a=0", 3, 10, 0, 9), 9, 0, 9, 0);
        drawnRow("SERIAL, as much eased", withBreak("draw 9 a<2;ease 9 a=0;ease 8 a=1", 3, 10, 90, 9), 9, 0, 0, 9, 0);
        drawnRow("SERIAL, more eased", withBreak("draw 9 a<2;ease 10 a<2", 3, 10, 90, 9), 9, 0, 0, 0, 0);
        drawnRow("SERIAL ahead of its tick", withBreak("draw 100 t<40", 3, 10, 90, 9), 8, 0, 0, 99);
    }

    private static void silentAndSky() {
        for (int kind = 4; kind <= 5; kind++) {
            int n = kind == 4 ? -90 : 90;
            String what = kind == 4 ? "SILENT" : "SKY";
            drawnRow(what + " by 0", withBreak(STEPS, kind, 10, 90, 0), 9, 0, 9, 18, 27, 36, 0);
            drawnRow(what + " by 1", withBreak(STEPS, kind, 10, 90, 1), 9, 0, n, 9, 18, 27, 36, 0);
            drawnRow(what + " by 9", withBreak(STEPS, kind, 10, 90, 9), 9, 0, n, n, n, n, n, n, n, n, n, 9, 18, 27, 36, 0);
            drawnRow(what + " whatever most is", withBreak(STEPS + ";most 10", kind, 10, 90, 2), 9, 0, n, n, 9, 10, 10, 10, 0);
            drawnRow(what + " by a most of 0", withBreak(STEPS + ";most 0", kind, 10, 90, 2), 9, 0, n, n, 0, 0);
            drawnRow(what + " by no draw at all", withBreak("most 5", kind, 10, 90, 2), 9, 0, n, n, 0, 0);
            drawnRow(what + " at the end", withBreak(STEPS, kind, 39, 90, 9), 38, 0, n);
            drawnRow(what + "'s AGE, not its TICK", withBreak("draw 50 a=0&t=12", kind, 10, 90, 2), 10, n, n, 45, 0);
            KettleBeats x = withBreak(STEPS, kind, 10, 95, 1);
            x.set(1, 9);
            drawnRow(what + " of 9 channels", x, 9, 0, kind == 4 ? -10 : 10, 1, 2, 3, 4, 0);
        }
    }

    private static void spread() {
        drawnRow("SPREAD by 0", withBreak(STEPS, 6, 10, 90, 0), 9, 0, 8, 18, 26, 36, 0);
        drawnRow("SPREAD by 1", withBreak(STEPS, 6, 10, 90, 1), 9, 0, 4, 13, 22, 31, 18, 0);
        drawnRow("SPREAD by 9", withBreak(STEPS, 6, 10, 90, 9), 9, 0, 4, 9, 13, 18, 0, 0, 0, 0, 0, 4, 9, 13, 18, 0);
        // Each half of 9 is cut: 4 and 4; most is of the whole ones, 10 and 10.
        drawnRow("SPREAD, both halves cut", withBreak("draw 10 a<2", 6, 10, 90, 1), 9, 0, 4, 8, 4, 0);
        drawnRow("SPREAD by most", withBreak("draw 100 a<2;most 10", 6, 10, 90, 1), 9, 0, 5, 10, 5, 0);
        // The TICK is v less, too: what was drawn at tick 10 comes again, what is at 12 does not.
        drawnRow("SPREAD's TICK", withBreak("draw 100 t=10", 6, 10, 90, 2), 9, 0, 45, 0, 45, 0);
        drawnRow("SPREAD's TICK", withBreak("draw 100 t=12", 6, 10, 90, 2), 9, 0, 0, 0, 45, 0, 45, 0);
        drawnRow("SPREAD at the end", withBreak(STEPS, 6, 39, 90, 9), 38, 0, 4);
    }

    // ---- "DEMAND at a TICK: of all BREAKS, together."

    private static void demandOfAll() {
        KettleBeats x = Checks.withLaw("draw 100 a=0");
        due("of no break", x.demand(0), 0);
        due("of no break at 39", x.demand(39), 0);
        int sum = 0;
        for (int i = 0; i < 8; i++) {
            x.pause(i == 7 ? 4 : 0, 20, 10 + i, 1);
            sum += i == 7 ? -17 : 10 + i;
            due("of " + (i + 1), x.demand(20), sum);
        }
        due("ahead", x.demand(19), 0);
        due("behind: of the SILENT one", x.demand(21), 17);
        KettleBeats y = Checks.withLaw("draw 100 a=0");
        for (int i = 0; i < 8; i++) {
            y.pause(4, 0, 99, 9);
        }
        due("the least of all", y.demand(0), -792);
        due("the least of all, on", y.demand(8), -792);
        due("all of them", y.demand(9), 792);
        KettleBeats z = Checks.withLaw("draw 999 a=39;draw 999 a=39");
        for (int i = 0; i < 8; i++) {
            z.pause(3, 0, 99, 9);
        }
        due("the most of all", z.demand(39), 8 * 1008);
    }
}
