/** What an object answers, whole: two objects with the same answers here hold the same. Asking changes the object. */
final class Traits {
    private final StringBuilder answers = new StringBuilder();
    private final KettleBeats x;

    private Traits(KettleBeats x) {
        this.x = x;
    }

    /** All but THE TRACE. */
    static String of(KettleBeats x) {
        Traits traits = new Traits(x);
        traits.counts();
        traits.breaks();
        traits.beats();
        traits.mayBe();
        traits.rowAndWaits();
        traits.settingsAndTape();
        traits.theImage();
        return traits.answers.toString();
    }

    static String ofTrace(KettleBeats x) {
        Traits traits = new Traits(x);
        traits.say("bodies", x.count(5));
        for (int i = -1; i <= 8; i++) {
            traits.say("trace", x.trace(i));
        }
        return traits.answers.toString();
    }

    private void say(String what, long... all) {
        answers.append(what);
        for (long answer : all) {
            answers.append(' ').append(answer);
        }
        answers.append("; ");
    }

    private void counts() {
        say("counts", x.count(0), x.count(1), x.count(2), x.count(3), x.count(4));
    }

    private void breaks() {
        for (int p = 0; p < 8; p++) {
            say("break " + p, x.of(p, 0), x.of(p, 1), x.of(p, 2), x.of(p, 3), x.drawn(p, 7), x.drawn(p, 20));
        }
        for (int t = 0; t < 40; t += 3) {
            say("at " + t, x.demand(t), x.made(t));
        }
    }

    private void beats() {
        say("costs", x.costs());
        say("beat", x.beat(5), x.beat(20), x.beat(39), x.first(6), x.wave(0), x.wave(1));
        say("inertia", x.inertia(5));
        say("best", x.best(0, 30, 0), x.best(0, 30, 1), x.best(0, 30, 2), x.best(1, 30, 0));
    }

    private void mayBe() {
        sures();
        say("beside", x.beside(0, 3, 3, 8), x.beside(1, 1, 9, 12));
        say("pump", x.pump(0, 0), x.pump(3, 2));
    }

    private void sures() {
        for (int bound = 4; bound <= 80; bound += 4) {
            say("sure by " + bound, x.sure(bound, 0), x.sure(bound, 1));
        }
        for (int bound = 3; bound <= 24; bound += 7) {
            say("worst by " + bound, x.worst(bound, 0), x.worst(bound, 1));
        }
    }

    private void rowAndWaits() {
        say("watched", x.watched(0, 0), x.watched(0, 1), x.watched(2, 0), x.watched(2, 1));
        say("waits", x.waits(0, 1, 0), x.waits(0, 1, 1));
    }

    /** From here on the object becomes another; both of a pair become so alike. */
    private void settingsAndTape() {
        say("settings", x.set(0, 2), x.set(1, 2), x.set(2, 77));
        say("tape", x.feed(0x3b6d_6f73_7420_37L, 7), x.law(), x.drawn(0, 7), x.drawn(1, 9), x.demand(11));
        // More than four may be later at first: then the odds are seen of these four, and of the others.
        for (int p = 0; p < 4; p++) {
            x.later(p, 10, 0);
        }
        sures();
    }

    private void theImage() {
        say("undo", x.undo());
        counts();
        for (int p = 0; p < 8; p++) {
            say("break " + p, x.of(p, 0), x.of(p, 1), x.drawn(p, 7));
        }
        say("again", x.costs(), x.made(4), x.made(12), x.beat(39), x.sure(10, 0), x.sure(10, 1), x.worst(3, 1), x.watched(1, 1));
        say("settings", x.set(0, 1), x.set(1, 1), x.set(2, 1));
    }
}
