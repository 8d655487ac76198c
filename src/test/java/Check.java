import java.util.NoSuchElementException;

/** What the tests share: answers compared with what is due, and texts fed. */
final class Check {
    static final long THROWN = Long.MIN_VALUE;
    private static int asked = 0;
    private static int wrong = 0;
    private static int sentences = 0;
    private static String sentence = "";
    private static int askedBefore = 0;

    private Check() {
    }

    /** The document's sentence that the answers behind this call belong to; one without an answer is a fault. */
    static void says(String words) {
        close();
        sentence = words;
        sentences++;
        askedBefore = asked;
    }

    private static void close() {
        if (sentences > 0 && asked == askedBefore) {
            wrong++;
            System.out.println("no answer was asked for: " + sentence);
        }
    }

    static void due(String call, long got, long want) {
        asked++;
        if (got != want) {
            wrong++;
            if (wrong <= 40) {
                String where = sentence.isEmpty() ? "" : "'" + sentence + "': ";
                System.out.println(where + call + " answered " + got + ", due is " + want);
            }
        }
    }

    static void due(String call, boolean got, boolean want) {
        due(call, got ? 1 : 0, want ? 1 : 0);
    }

    static void finish() {
        close();
        String of = sentences == 0 ? "" : " to " + sentences + " sentences";
        System.out.println(asked + " answers" + of + ", " + wrong + " not as due");
        if (wrong != 0 || asked == 0) {
            System.exit(1);
        }
    }

    /** Puts the text upon an empty TAPE; how many bytes it has then. */
    static int tape(KerbSide x, String text) {
        x.end(0);
        int size = 0;
        for (int from = 0; from < text.length(); from += 20) {
            int[] n = new int[5];
            for (int i = from; i < from + 20 && i < text.length(); i++) {
                n[(i - from) / 4] |= (text.charAt(i) & 255) << (24 - 8 * ((i - from) % 4));
            }
            size = x.feed(n[0], n[1], n[2], n[3], n[4]);
        }
        return size;
    }

    static int fault(KerbSide x, int sort, String text) {
        tape(x, text);
        return x.fault(sort);
    }

    static int text(KerbSide x, int sort, String text) {
        tape(x, text);
        return x.text(sort);
    }

    static KerbSide kerb(String text) {
        KerbSide x = new KerbSide();
        if (text(x, 0, text) < 1) {
            throw new IllegalStateException("no KERB: " + text);
        }
        return x;
    }

    /** What yard answers, or THROWN. */
    static long yard(KerbSide x, int yard, int what) {
        try {
            return x.yard(yard, what);
        } catch (NoSuchElementException e) {
            return THROWN;
        }
    }
}
