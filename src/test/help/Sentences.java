/**
 * What the tests of the document's sentences share: each test bears its sentence's words, works on
 * objects of its own, and one that fails does not keep the others from being run.
 */
abstract class Sentences {
    static final int MAX = Integer.MAX_VALUE;
    static final int MIN = Integer.MIN_VALUE;
    /** Stands for a call that threw what the document names: no answer is that low. */
    static final int THROWN = -999;
    private static final int BY_THE_MACHINE = -998;

    private static String words = "";
    private static int count = 0;
    private static int wrong = 0;

    /** A sentence's test. The promise is 0 for the words under 'Terms'. */
    static void sentence(int promise, String text, Runnable test) {
        words = (promise == 0 ? "Terms" : "Promise " + promise) + ", '" + text + "'";
        count++;
        try {
            test.run();
        } catch (RuntimeException e) {
            wrong++;
            System.out.println(words + ": threw " + e);
        }
    }

    static void due(String call, int got, int want) {
        if (got != want) {
            wrong++;
            System.out.println(words + ": " + call + " answered " + got + ", due is " + want);
        }
    }

    static void finish() {
        System.out.println(count + " sentences, " + wrong + " answers that are not as due");
        if (wrong != 0 || count == 0) {
            System.exit(1);
        }
    }

    static int[] ints(int... values) {
        return values;
    }

    /** The class must throw it itself: the machine's own is told apart by its text. */
    static int scanned(SearchWire x, int session, int i, int what) {
        try {
            return x.scanned(session, i, what);
        } catch (ArrayIndexOutOfBoundsException e) {
            String text = String.valueOf(e.getMessage());
            return text.contains("out of bounds for length") ? BY_THE_MACHINE : THROWN;
        }
    }

    /** Records 0, 1, .. of 10 bytes each, with these terms of index 0 (-1: none). */
    static SearchWire withTerms(int... terms) {
        SearchWire x = new SearchWire();
        for (int r = 0; r < terms.length; r++) {
            x.record(10);
            x.term(r, 0, terms[r]);
        }
        return x;
    }

    /**
     * Records of these sizes, all with the term 1 of index 0. Question 0 finds them all, question 1
     * finds none. Session 0 may all, and has them in set 0.
     */
    static SearchWire withSizes(int limit, int... sizes) {
        SearchWire x = new SearchWire();
        for (int r = 0; r < sizes.length; r++) {
            x.record(sizes[r]);
            x.term(r, 0, 1);
        }
        x.question(0, 0, 1, 0);
        x.question(0, 0, 2, 0);
        x.session(7, limit);
        x.search(0, 0, 0);
        return x;
    }

    static int[] manySizes(int n, int size) {
        int[] sizes = new int[n];
        java.util.Arrays.fill(sizes, size);
        return sizes;
    }

    /** Presents a whole set and compares its records. */
    static void dueSet(String call, SearchWire x, int session, int set, int... want) {
        due(call + ", size", x.size(session, set), want.length);
        if (want.length > 0) {
            x.present(session, set, 0, want.length);
            duePresented(call, x, session, want);
        }
    }

    static void duePresented(String call, SearchWire x, int session, int... want) {
        for (int i = 0; i < want.length; i++) {
            due(call + ", at " + i, x.at(session, i), want[i]);
        }
        due(call + ", at its end", x.at(session, want.length), -1);
    }

    /** All that is told of a segment: its first place, records, bytes, mark. */
    static void dueSegment(String call, SearchWire x, int session, int i, int... want) {
        for (int what = 0; what < 4; what++) {
            due(call + ", segment " + i + " what " + what, x.segment(session, i, what), want[what]);
        }
    }

    static void dueScanned(String call, SearchWire x, int session, int... want) {
        for (int i = 0; i < want.length; i++) {
            due(call + ", term " + i, scanned(x, session, i, 0), want[i]);
        }
        due(call + ", its end", scanned(x, session, want.length, 0), THROWN);
    }

    /** All that is told of a session: state, diagnostics, latest code, sets. */
    static void dueState(String call, SearchWire x, int session, int... want) {
        for (int what = 0; what < 4; what++) {
            due(call + ", state " + what, x.state(session, what), want[what]);
        }
    }

    /** The records that a question finds now, asked by a session opened for it. */
    static void dueFound(String call, SearchWire x, int question, int... want) {
        int s = x.session(0, 1000);
        due(call + ", found", x.search(s, question, 0), want.length == 0 ? -108 : want.length);
        dueSet(call, x, s, 0, want);
    }
}
