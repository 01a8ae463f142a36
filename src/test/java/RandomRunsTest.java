import java.util.Random;

/** Runs of 512 random calls, the same ones each time, beside PlainModel. */
public final class RandomRunsTest {
    private static final int RUNS = 300, CALLS = 512;
    private static final int[] WILD = {Integer.MIN_VALUE, -1000, -2, -1, 0, 1, 9, 10, 40, 41, 99, 100, 999, 1000, Integer.MAX_VALUE};

    private final Random random;
    private final KettleBeats program = new KettleBeats();
    private final PlainModel model = new PlainModel();
    private final int run;
    private int calls = 0;
    private String text = "";

    private RandomRunsTest(int run) {
        this.run = run;
        random = new Random(run);
    }

    public static void main(String[] args) {
        int runs = args.length > 0 ? Integer.parseInt(args[0]) : RUNS;
        for (int run = 0; run < runs; run++) {
            new RandomRunsTest(run).go();
        }
        Checks.close();
    }

    private void go() {
        // Some runs ask before there is a law; most begin with one.
        if (run % 5 != 0) {
            startLaw();
        }
        while (calls < CALLS) {
            step();
        }
    }

    private void due(String call, long got, long want) {
        calls++;
        Checks.due("run " + run + ", call " + calls + ": " + call, got, want);
    }

    /** From low to high, now and then one beyond or a wild one. */
    private int from(int low, int high) {
        int dice = random.nextInt(60);
        if (dice == 0) {
            return WILD[random.nextInt(WILD.length)];
        }
        if (dice == 1) {
            return random.nextBoolean() ? low - 1 : high + 1;
        }
        return low + random.nextInt(Math.max(1, high - low + 1));
    }

    private int pauseNumber() {
        return from(0, model.count(0) - 1);
    }

    private int workNumber() {
        return from(0, model.count(1) - 1);
    }

    private int bound() {
        return random.nextBoolean() ? from(0, 60) : from(0, 999);
    }

    // ---- laws

    private String number() {
        int dice = random.nextInt(8);
        return "" + (dice == 0 ? random.nextInt(1000) : dice < 4 ? random.nextInt(100) : random.nextInt(12));
    }

    private String factor(int open) {
        int dice = random.nextInt(10);
        if (open > 0 && dice < 2) {
            return "!" + factor(open - 1);
        }
        if (open > 0 && dice < 4) {
            return "(" + expression(open - 1) + ")";
        }
        return "" + "aaacskt".charAt(random.nextInt(7)) + "<=>".charAt(random.nextInt(3)) + number();
    }

    private String expression(int open) {
        StringBuilder e = new StringBuilder(factor(open));
        for (int i = 0; i < 3 && random.nextInt(3) == 0; i++) {
            e.append(random.nextBoolean() ? '|' : '&').append(factor(open));
        }
        return e.toString();
    }

    private String lawText() {
        StringBuilder law = new StringBuilder();
        // Now and then more clauses, or more that is open, than there may be.
        int clauses = 1 + random.nextInt(random.nextInt(10) == 0 ? 9 : 4);
        for (int i = 0; i < clauses; i++) {
            String word = random.nextInt(3) > 0 ? "draw" : random.nextBoolean() ? "ease" : "most";
            law.append(i > 0 ? ";" : "").append(word).append(' ').append(number());
            law.append(word.equals("most") ? "" : " " + expression(random.nextInt(8)));
        }
        int dice = random.nextInt(6);
        if (dice == 0 && law.length() > 0) {
            law.setCharAt(random.nextInt(law.length()), "dem a<=>019|&!();".charAt(random.nextInt(17)));
        }
        if (dice == 1 && law.length() > 0) {
            law.setLength(random.nextInt(law.length()));
        }
        return law.toString();
    }

    private void startLaw() {
        text = "draw " + (20 + random.nextInt(200)) + " a<" + (1 + random.nextInt(9)) + (random.nextBoolean() ? ";" + lawText() : "");
        for (int i = 0; i < 20 && !text.isEmpty(); i++) {
            feedSome();
        }
        text = "";
        due("law()", program.law(), model.law());
    }

    private void feedSome() {
        if (text.isEmpty()) {
            long word = random.nextLong();
            int n = from(1, 8);
            due("feed(" + word + ", " + n + ")", program.feed(word, n), model.feed(word, n));
            return;
        }
        int n = 1 + random.nextInt(Math.min(8, text.length()));
        long word = random.nextLong();
        for (int i = 0; i < n; i++) {
            word = word << 8 | text.charAt(i);
        }
        text = text.substring(n);
        due("feed(" + word + ", " + n + ")", program.feed(word, n), model.feed(word, n));
    }

    private void tryLaw() {
        text = lawText();
        for (int i = 0; i < 20 && !text.isEmpty(); i++) {
            feedSome();
        }
        text = "";
        due("law()", program.law(), model.law());
    }

    // ---- calls

    private void step() {
        int dice = random.nextInt(100);
        if (dice < 22) {
            change();
        } else if (dice < 24) {
            tryLaw();
        } else if (dice < 50) {
            askBreaks();
        } else if (dice < 85) {
            askBeat();
        } else {
            askActs();
        }
    }

    private void change() {
        switch (random.nextInt(9)) {
            case 0: case 1: {
                int kind = from(0, 6), tick = from(0, 39), size = from(0, 99), v = from(0, 9);
                due("pause(" + kind + ", " + tick + ", " + size + ", " + v + ")", program.pause(kind, tick, size, v), model.pause(kind, tick, size, v));
                break;
            }
            case 2: {
                int what = from(0, 2), n = what < 2 ? from(0, 10) : from(1, 300);
                due("set(" + what + ", " + n + ")", program.set(what, n), model.set(what, n));
                break;
            }
            case 3: {
                int pause = pauseNumber(), now = random.nextBoolean() ? 10 : from(0, 10), one = from(0, Math.max(0, 10 - now));
                due("later(" + pause + ", " + now + ", " + one + ")", program.later(pause, now, one), model.later(pause, now, one));
                break;
            }
            case 4: {
                int lag = from(0, 9), power = from(1, 99), store = from(1, 40), cost = from(0, 99);
                due("work(" + lag + ", " + power + ", " + store + ", " + cost + ")", program.work(lag, power, store, cost), model.work(lag, power, store, cost));
                break;
            }
            case 5: case 6: {
                int work = workNumber(), tick = from(0, 39), n = from(0, random.nextBoolean() ? 8 : 40);
                due("call(" + work + ", " + tick + ", " + n + ")", program.call(work, tick, n), model.call(work, tick, n));
                break;
            }
            case 7: {
                int n = random.nextInt(12) == 0 ? -100 : from(-99, random.nextBoolean() ? 60 : 999);
                due("row(" + n + ")", program.row(n), model.row(n));
                break;
            }
            default:
                changeAll();
                break;
        }
    }

    private void changeAll() {
        switch (random.nextInt(8)) {
            case 0: case 1: case 2:
                due("undo()", program.undo(), model.undo());
                break;
            case 3:
                due("image()", program.image(), model.image());
                break;
            case 4:
                due("law()", program.law(), model.law());
                break;
            default:
                feedSome();
                break;
        }
    }

    private void askBreaks() {
        int pause = pauseNumber(), tick = from(0, 39);
        switch (random.nextInt(7)) {
            case 0: {
                int what = from(0, 3);
                due("of(" + pause + ", " + what + ")", program.of(pause, what), model.of(pause, what));
                break;
            }
            case 1: case 2: case 3:
                due("drawn(" + pause + ", " + tick + ")", program.drawn(pause, tick), model.drawn(pause, tick));
                break;
            case 4:
                due("demand(" + tick + ")", program.demand(tick), model.demand(tick));
                break;
            case 5: {
                int what = from(0, 1);
                due("watched(" + tick + ", " + what + ")", program.watched(tick, what), model.watched(tick, what));
                break;
            }
            default: {
                int b = pauseNumber(), what = from(0, 1);
                due("waits(" + pause + ", " + b + ", " + what + ")", program.waits(pause, b, what), model.waits(pause, b, what));
                break;
            }
        }
    }

    private void askBeat() {
        int bound = bound(), what = from(0, 2), part = from(0, 1), tick = from(0, 39);
        switch (random.nextInt(12)) {
            case 0:
                due("made(" + tick + ")", program.made(tick), model.made(tick));
                break;
            case 1:
                due("costs()", program.costs(), model.costs());
                break;
            case 2:
                due("beat(" + tick + ")", program.beat(tick), model.beat(tick));
                break;
            case 3:
                due("first(" + bound + ")", program.first(bound), model.first(bound));
                break;
            case 4:
                due("wave(" + what + ")", program.wave(what), model.wave(what));
                break;
            case 5:
                due("inertia(" + bound + ")", program.inertia(bound), model.inertia(bound));
                break;
            case 6: {
                int work = workNumber();
                due("best(" + work + ", " + bound + ", " + what + ")", program.best(work, bound, what), model.best(work, bound, what));
                break;
            }
            case 7:
                due("sure(" + bound + ", " + part + ")", program.sure(bound, part), model.sure(bound, part));
                break;
            case 8:
                due("worst(" + bound + ", " + part + ")", program.worst(bound, part), model.worst(bound, part));
                break;
            case 9: case 10: {
                int work = workNumber(), r = random.nextBoolean() ? from(0, 30) : from(0, 999), m = from(1, 20);
                due("beside(" + work + ", " + r + ", " + m + ", " + bound + ")", program.beside(work, r, m, bound), model.beside(work, r, m, bound));
                break;
            }
            default: {
                int pump = from(0, 9), k = from(0, 4);
                due("pump(" + pump + ", " + k + ")", program.pump(pump, k), model.pump(pump, k));
                break;
            }
        }
    }

    private void askActs() {
        int pause = pauseNumber();
        switch (random.nextInt(5)) {
            case 0: case 1: {
                int act = from(0, 2), x = random.nextBoolean() ? random.nextInt() : from(-50, 50);
                due("act(" + pause + ", " + act + ", " + x + ")", program.act(pause, act, x), model.act(pause, act, x));
                break;
            }
            case 2: {
                int i = from(0, 6);
                due("trace(" + i + ")", program.trace(i), model.trace(i));
                break;
            }
            case 3: {
                int k = from(0, 6);
                due("as(" + pause + ", " + k + ")", program.as(pause, k), model.as(pause, k));
                break;
            }
            default: {
                int what = from(0, 5);
                due("count(" + what + ")", program.count(what), model.count(what));
                break;
            }
        }
    }
}
