import java.nio.charset.StandardCharsets;

/** What the tests share: answers against what is due, and texts for THE TAPE. */
final class Checks {
    private static int asked = 0;
    private static int wrong = 0;

    private Checks() {
    }

    static void due(String call, long got, long want) {
        asked++;
        if (got != want) {
            wrong++;
            System.out.println(call + " answered " + got + ", due is " + want);
        }
    }

    static void due(String call, String got, String want) {
        asked++;
        if (!got.equals(want)) {
            wrong++;
            System.out.println(call + " is " + got + ", due is " + want);
        }
    }

    /** Prints how it went, and ends with exit code 1 if an answer was wrong. */
    static void close() {
        System.out.println(asked + " answers looked at, " + wrong + " not as due");
        if (wrong != 0) {
            System.exit(1);
        }
    }

    /** Feeds a text (signs 0 to 255) as it is. */
    static void feed(KettleBeats x, String text) {
        byte[] bytes = text.getBytes(StandardCharsets.ISO_8859_1);
        for (int at = 0; at < bytes.length; at += 8) {
            int n = Math.min(8, bytes.length - at);
            long word = 0;
            for (int i = 0; i < n; i++) {
                word = word << 8 | (bytes[at + i] & 255);
            }
            x.feed(word, n);
        }
    }

    static int law(KettleBeats x, String text) {
        feed(x, text);
        return x.law();
    }

    static KettleBeats withLaw(String text) {
        KettleBeats x = new KettleBeats();
        due("law of '" + text + "'", law(x, text), 0);
        return x;
    }
}
