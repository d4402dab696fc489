/** One method for each promise of the document: ordinary inputs, its edges, and wrong inputs. */
public final class PromiseTests {
    private static final int MAX = Integer.MAX_VALUE;
    private static final int MIN = Integer.MIN_VALUE;
    /** Stands for a call that threw ArrayIndexOutOfBoundsException: no answer is that low. */
    private static final int THROWN = -999;

    private static String promise = "";
    private static int wrong = 0;

    public static void main(String[] args) {
        newObject();
        record();
        term();
        question();
        questionsThatAreWrong();
        session();
        search();
        searchByEveryKind();
        searchOfDoublingQuestions();
        searchWithoutNamedSets();
        searchDiagnostics();
        size();
        present();
        presentDiagnostics();
        segment();
        segmentEdges();
        at();
        sort();
        sortDiagnostics();
        scan();
        scanPlaces();
        scanDiagnostics();
        scanned();
        drop();
        close();
        closeByThirdDiagnostic();
        state();
        System.out.println(wrong == 0 ? "all promises hold" : wrong + " answers are not as due");
        if (wrong != 0) {
            System.exit(1);
        }
    }

    private static void due(String call, int got, int want) {
        if (got != want) {
            wrong++;
            System.out.println(promise + ": " + call + " answered " + got + ", due is " + want);
        }
    }

    private static int scannedOrThrown(SearchWire x, int session, int i, int what) {
        try {
            return x.scanned(session, i, what);
        } catch (ArrayIndexOutOfBoundsException e) {
            return THROWN;
        }
    }

    /** Presents a whole set and compares its records. */
    private static void dueRow(String call, SearchWire x, int session, int set, int... want) {
        due(call + " size", x.size(session, set), want.length);
        x.present(session, set, 0, want.length);
        for (int i = 0; i < want.length; i++) {
            due(call + " at " + i, x.at(session, i), want[i]);
        }
        due(call + " at its end", x.at(session, want.length), -1);
    }

    private static void dueScan(String call, SearchWire x, int got, int... want) {
        due(call, got, want.length);
        for (int i = 0; i < want.length; i++) {
            due(call + " term " + i, scannedOrThrown(x, 0, i, 0), want[i]);
        }
        due(call + " end", scannedOrThrown(x, 0, want.length, 0), THROWN);
    }

    /** Records 0, 1, .. of 10 bytes each, with these terms of index 0 (-1: none). */
    private static SearchWire withTerms(int... terms) {
        SearchWire x = new SearchWire();
        for (int i = 0; i < terms.length; i++) {
            x.record(10);
            x.term(i, 0, terms[i]);
        }
        return x;
    }

    /** Records of these sizes, all found by question 0, and a session 0 that has them in set 0. */
    private static SearchWire withSizes(int limit, int... sizes) {
        SearchWire x = new SearchWire();
        for (int i = 0; i < sizes.length; i++) {
            x.record(sizes[i]);
            x.term(i, 0, 1);
        }
        x.question(0, 0, 1, 0);
        x.session(7, limit);
        x.search(0, 0, 0);
        return x;
    }

    private static void newObject() {
        promise = "1 a new object";
        SearchWire x = new SearchWire();
        due("NONE", SearchWire.NONE, -1);
        for (int s = 0; s < 8; s++) {
            for (int what = 0; what < 4; what++) {
                due("state(" + s + ", " + what + ")", x.state(s, what), 0);
            }
            due("at", x.at(s, 0), -1);
            due("segment", x.segment(s, 0, 0), -1);
            due("scanned", scannedOrThrown(x, s, 0, 0), THROWN);
        }
        due("term of no record", x.term(0, 0, 1), -1);
        due("question of no question", x.question(2, 0, 0, 0), -1);
        due("first record", x.record(1), 0);
        due("first question", x.question(0, 0, 0, 0), 0);
        due("first session", x.session(0, 1), 0);
        due("another object's state", new SearchWire().state(0, 0), 0);
    }

    private static void record() {
        promise = "2 record";
        SearchWire x = new SearchWire();
        for (int bad : new int[] {0, -1, 201, MIN, MAX}) {
            due("record(" + bad + ")", x.record(bad), -1);
        }
        for (int i = 0; i < 100; i++) {
            due("record " + i, x.record(i % 2 == 0 ? 1 : 200), i);
        }
        due("record 100", x.record(1), -1);
        x.session(3, 1000);
        for (int index = 0; index < 5; index++) {
            due("a new record has no term", x.scan(0, index, 0, 1, 0), index < 3 ? -108 : -101);
        }
        due("term of the last record", x.term(99, 4, 0), 1);
        due("term of none", x.term(100, 4, 0), -1);
    }

    private static void term() {
        promise = "3 term";
        SearchWire x = new SearchWire();
        x.record(10);
        x.record(10);
        due("term(0, 0, 0)", x.term(0, 0, 0), 1);
        due("term(1, 4, 999)", x.term(1, 4, 999), 1);
        for (int bad : new int[] {-2, 1000, MIN, MAX}) {
            due("value " + bad, x.term(0, 0, bad), -1);
        }
        for (int bad : new int[] {-1, 2, 100, MIN, MAX}) {
            due("record " + bad, x.term(bad, 0, 1), -1);
        }
        for (int bad : new int[] {-1, 5, MIN, MAX}) {
            due("index " + bad, x.term(0, bad, 1), -1);
            due("index " + bad + " of none", x.term(0, bad, -1), -1);
        }
        x.session(2, 100);
        due("scan", x.scan(0, 0, 0, 20, 0), 1);
        due("a refused value changes nothing", scannedOrThrown(x, 0, 0, 0), 0);
        due("another term", x.term(0, 0, 7), 1);
        due("scan", x.scan(0, 0, 0, 20, 0), 1);
        due("it is in place of the first", scannedOrThrown(x, 0, 0, 0), 7);
        due("none", x.term(0, 0, -1), 1);
        due("none again", x.term(0, 0, -1), 1);
        due("scan of none", x.scan(0, 0, 0, 20, 0), -108);
        due("the other record's", x.scan(0, 4, 0, 20, 0), 1);
    }

    private static void question() {
        promise = "4 question";
        SearchWire x = new SearchWire();
        due("term", x.question(0, 0, 0, MIN), 0);
        due("term", x.question(0, 4, 999, MAX), 1);
        due("range", x.question(1, 0, 0, 999), 2);
        due("range of one", x.question(1, 4, 5, 5), 3);
        due("and", x.question(2, 0, 3, MIN), 4);
        due("or", x.question(3, 4, 0, MAX), 5);
        due("but not, of itself", x.question(4, 5, 5, -1), 6);
        for (int i = 7; i < 40; i++) {
            due("question " + i, x.question(2 + i % 3, i - 1, i - 2, 0), i);
        }
        due("the 41st", x.question(0, 0, 0, 0), -1);
        due("the 41st", x.question(2, 0, 0, 0), -1);
    }

    private static void questionsThatAreWrong() {
        SearchWire x = new SearchWire();
        x.question(0, 0, 0, 0);
        for (int bad : new int[] {-1, 5, MIN, MAX}) {
            due("kind " + bad, x.question(bad, 0, 0, 0), -1);
            due("term, index " + bad, x.question(0, bad, 0, 0), -1);
            due("range, index " + bad, x.question(1, bad, 0, 0), -1);
        }
        for (int bad : new int[] {-1, 1000, MIN, MAX}) {
            due("value " + bad, x.question(0, 0, bad, 0), -1);
            due("from " + bad, x.question(1, 0, bad, 999), -1);
            due("to " + bad, x.question(1, 0, 0, bad), -1);
        }
        due("from behind to", x.question(1, 0, 1, 0), -1);
        for (int kind = 2; kind <= 4; kind++) {
            for (int bad : new int[] {-1, 1, 40, MIN, MAX}) {
                due("first " + bad, x.question(kind, bad, 0, 0), -1);
                due("second " + bad, x.question(kind, 0, bad, 0), -1);
            }
        }
        due("none of these was counted", x.question(0, 0, 0, 0), 1);
    }

    private static void session() {
        promise = "5 session";
        SearchWire x = new SearchWire();
        for (int bad : new int[] {-1, 8, MIN, MAX}) {
            due("options " + bad, x.session(bad, 1), -1);
        }
        for (int bad : new int[] {0, -1, 1001, MIN, MAX}) {
            due("limit " + bad, x.session(0, bad), -1);
        }
        for (int s = 0; s < 8; s++) {
            due("state before", x.state(s, 0), 0);
            due("session " + s, x.session(s, s % 2 == 0 ? 1 : 1000), s);
            due("state behind", x.state(s, 0), 1);
            if (s == 2) {
                due("a closed one", x.close(2), 0);
            }
        }
        due("none left", x.session(0, 1), -1);
        x.close(0);
        due("a closed one stays closed", x.session(0, 1), -1);
        optionsOfSessions(x);
    }

    private static void optionsOfSessions(SearchWire x) {
        x.record(1);
        x.term(0, 0, 0);
        x.question(0, 0, 0, 0);
        for (int s = 0; s < 8; s++) {
            boolean closed = s == 0 || s == 2;
            due("search " + s, x.search(s, 0, 0), closed ? -101 : 1);
            due("sort " + s, x.sort(s, 0, 0, true), closed ? -101 : (s & 1) != 0 ? 0 : -102);
            due("scan " + s, x.scan(s, 0, 0, 1, 0), closed ? -101 : (s & 2) != 0 ? 1 : -102);
            boolean over = closed || x.state(s, 0) != 1;
            due("name 4 " + s, x.search(s, 0, 4), over ? -101 : (s & 4) != 0 ? 1 : -104);
        }
    }

    private static void search() {
        promise = "6 search";
        SearchWire x = withTerms(5, -1, 7, 5, 6);
        x.question(0, 0, 5, 0);
        x.question(1, 0, 6, 7);
        x.question(0, 0, 8, 0);
        x.session(7, 1000);
        due("term 5", x.search(0, 0, 0), 2);
        due("range 6 to 7", x.search(0, 1, 4), 2);
        dueRow("term 5", x, 0, 0, 0, 3);
        dueRow("range 6 to 7", x, 0, 4, 2, 4);
        due("sets", x.state(0, 3), 2);
        x.term(0, 0, 8);
        x.record(10);
        x.term(5, 0, 5);
        dueRow("a set stays as it was found", x, 0, 0, 0, 3);
        due("asked again", x.search(0, 0, 0), 2);
        dueRow("asked again", x, 0, 0, 3, 5);
        due("found now", x.search(0, 2, 1), 1);
        dueRow("found now", x, 0, 1, 0);
        x.session(4, 1000);
        due("another session's set", x.size(1, 0), -104);
    }

    private static void searchByEveryKind() {
        SearchWire x = withTerms(0, 1, 2, 3, -1);
        x.term(1, 1, 9);
        x.term(3, 1, 9);
        x.term(4, 1, 9);
        x.question(1, 0, 1, 2);
        x.question(0, 1, 9, 0);
        x.question(2, 0, 1, 0);
        x.question(3, 0, 1, 0);
        x.question(4, 0, 1, 0);
        x.question(4, 1, 0, 0);
        x.question(4, 3, 2, 0);
        x.question(0, 0, 0, 0);
        x.session(4, 1000);
        int[][] want = {{1, 2}, {1, 3, 4}, {1}, {1, 2, 3, 4}, {2}, {3, 4}, {2, 3, 4}, {0}};
        for (int q = 0; q < want.length; q++) {
            due("question " + q, x.search(0, q, q % 5), want[q].length);
            dueRow("question " + q, x, 0, q % 5, want[q]);
        }
    }

    /** Each question names the one before it twice: to follow each name would not end in time. */
    private static void searchOfDoublingQuestions() {
        SearchWire x = new SearchWire();
        for (int i = 0; i < 100; i++) {
            x.record(200);
            x.term(i, 0, i);
        }
        x.question(1, 0, 1, 999);
        for (int q = 1; q < 40; q++) {
            x.question(2 + q % 2, q - 1, q - 1, 0);
        }
        x.session(0, 1000);
        due("the last question", x.search(0, 39, 0), 99);
        due("segments", x.present(0, 0, 0, 99), 20);
        due("last", x.at(0, 98), 99);
    }

    private static void searchWithoutNamedSets() {
        SearchWire x = withTerms(1, 2);
        x.question(0, 0, 1, 0);
        x.question(0, 0, 2, 0);
        x.session(3, 1000);
        due("first", x.search(0, 0, 0), 1);
        due("second", x.search(0, 1, 0), 1);
        dueRow("in place of the first", x, 0, 0, 1);
        due("sets", x.state(0, 3), 1);
        due("name 1", x.search(0, 0, 1), -104);
        dueRow("a refused search leaves the set", x, 0, 0, 1);
        due("name -1", x.search(0, 0, -1), -104);
        due("size 1", x.size(0, 1), -104);
        due("sort 1", x.sort(0, 1, 0, false), -104);
        due("closed", x.state(0, 0), 2);
    }

    private static void searchDiagnostics() {
        for (int bad : new int[] {-1, 0, 1, 7, 8, MIN, MAX}) {
            due("session " + bad, new SearchWire().search(bad, 0, 0), -101);
        }
        for (int bad : new int[] {-1, 1, 39, 40, MIN, MAX}) {
            SearchWire x = withSizes(100, 1);
            due("question " + bad, x.search(0, bad, 9), -103);
            due("its code", x.state(0, 2), 103);
            due("the set stays", x.size(0, 0), 1);
        }
        for (int bad : new int[] {-1, 5, MIN, MAX}) {
            SearchWire x = withSizes(100, 1);
            due("set " + bad, x.search(0, 0, bad), -104);
            due("its code", x.state(0, 2), 104);
        }
        SearchWire x = withSizes(100, 1);
        x.question(0, 0, 2, 0);
        due("nothing found", x.search(0, 1, 0), -108);
        due("the set is empty", x.size(0, 0), 0);
        due("nothing found", x.search(0, 1, 3), -108);
        due("the set is made", x.size(0, 3), 0);
        due("counted", x.state(0, 1), 2);
        due("the third", x.search(0, 1, 3), -108);
        due("no set is left", x.size(0, 3), -101);
        due("no set is left", x.state(0, 3), 0);
    }

    private static void size() {
        promise = "7 size";
        SearchWire x = withSizes(100, 1, 2, 3);
        due("size(0, 0)", x.size(0, 0), 3);
        for (int bad : new int[] {-1, 1, 4, 5, MIN, MAX}) {
            due("set " + bad, x.size(0, bad), -104);
        }
        for (int bad : new int[] {-1, 1, 7, 8, MIN, MAX}) {
            due("session " + bad, x.size(bad, 0), -101);
        }
        due("not counted", x.state(0, 1), 0);
        due("no code", x.state(0, 2), 0);
        due("open", x.state(0, 0), 1);
        x.close(0);
        due("closed", x.size(0, 0), -101);
    }

    private static void present() {
        promise = "8 present";
        SearchWire x = withSizes(50, 20, 30, 1, 50, 25, 26);
        due("all", x.present(0, 0, 0, 6), 5);
        due("one", x.present(0, 0, 5, 1), 1);
        due("its record", x.at(0, 0), 5);
        due("from 2 on", x.present(0, 0, 1, 2), 1);
        due("from 2 on", x.present(0, 0, 2, 2), 2);
        due("first", x.at(0, 0), 2);
        due("second", x.at(0, 1), 3);
        due("third", x.at(0, 2), -1);
        due("a limit of one", withSizes(1, 1, 1, 1).present(0, 0, 0, 3), 3);
        due("a limit of 1000", withSizes(1000, 200, 200, 200, 200, 200).present(0, 0, 0, 5), 1);
        due("and one byte", withSizes(1000, 200, 200, 200, 200, 200, 1).present(0, 0, 0, 6), 2);
    }

    private static void presentDiagnostics() {
        for (int bad : new int[] {-1, 1, 8, MIN, MAX}) {
            due("session " + bad, withSizes(1, 1).present(bad, 9, 9, 0), -101);
        }
        for (int bad : new int[] {-1, 1, 5, MIN, MAX}) {
            due("set " + bad, withSizes(1, 1).present(0, bad, 9, 0), -104);
        }
        for (int bad : new int[] {0, -1, MIN}) {
            due("n " + bad, withSizes(1, 1).present(0, 0, 9, bad), -107);
        }
        int[][] ranges = {{0, 4}, {3, 1}, {1, 3}, {-1, 1}, {-1, 4}, {MIN, 1}, {MAX, 1}, {1, MAX},
            {MAX, MAX}, {MIN, MAX}, {-1, MAX}};
        for (int[] range : ranges) {
            SearchWire x = withSizes(1, 1, 1, 1);
            due("present the last", x.present(0, 0, 2, 1), 1);
            due("from " + range[0] + ", " + range[1], x.present(0, 0, range[0], range[1]), -105);
            due("its code", x.state(0, 2), 105);
            due("counted", x.state(0, 1), 1);
            due("what was presented stays", x.at(0, 0), 2);
            due("and no more", x.at(0, 1), -1);
        }
        SearchWire x = withSizes(1, 1);
        x.question(0, 0, 2, 0);
        x.search(0, 1, 0);
        due("of an empty set", x.present(0, 0, 0, 1), -105);
    }

    private static void dueSegment(SearchWire x, int i, int... want) {
        for (int what = 0; what < 4; what++) {
            due("segment " + i + " what " + what, x.segment(0, i, what), want[what]);
        }
    }

    private static void segment() {
        promise = "9 segment";
        SearchWire x = withSizes(50, 99, 20, 30, 51, 1, 50);
        due("present", x.present(0, 0, 0, 6), 5);
        dueSegment(x, 0, 0, 1, 99, 1);
        dueSegment(x, 1, 1, 2, 50, 0);
        dueSegment(x, 2, 3, 1, 51, 1);
        dueSegment(x, 3, 4, 1, 1, 0);
        dueSegment(x, 4, 5, 1, 50, 0);
        dueSegment(x, 5, -1, -1, -1, -1);
        due("present from 2 on", x.present(0, 0, 2, 3), 3);
        dueSegment(x, 0, 0, 1, 30, 0);
        dueSegment(x, 1, 1, 1, 51, 1);
        dueSegment(x, 2, 2, 1, 1, 0);
        dueSegment(x, 3, -1, -1, -1, -1);
    }

    private static void segmentEdges() {
        SearchWire x = withSizes(50, 10, 60);
        due("none was presented", x.segment(0, 0, 0), -1);
        x.present(0, 0, 0, 2);
        for (int bad : new int[] {-1, 4, MIN, MAX}) {
            due("what " + bad, x.segment(0, 0, bad), -1);
        }
        for (int bad : new int[] {-1, 2, 100, MIN, MAX}) {
            due("segment " + bad, x.segment(0, bad, 1), -1);
        }
        for (int bad : new int[] {-1, 1, 7, 8, MIN, MAX}) {
            due("session " + bad, x.segment(bad, 0, 1), -1);
        }
        due("no diagnostic of it", x.state(0, 1), 0);
        x.session(7, 1000);
        x.search(1, 0, 0);
        due("another session's limit", x.present(1, 0, 0, 2), 1);
        dueSegment(x, 1, 1, 1, 60, 1);
        x.close(0);
        dueSegment(x, 1, 1, 1, 60, 1);
    }

    private static void at() {
        promise = "10 at";
        SearchWire x = withSizes(50, 10, 60, 30);
        due("none was presented", x.at(0, 0), -1);
        x.present(0, 0, 1, 2);
        due("at 0", x.at(0, 0), 1);
        due("at 1", x.at(0, 1), 2);
        for (int bad : new int[] {-1, 2, 100, MIN, MAX}) {
            due("at " + bad, x.at(0, bad), -1);
        }
        for (int bad : new int[] {-1, 1, 7, 8, MIN, MAX}) {
            due("session " + bad, x.at(bad, 0), -1);
        }
        due("no diagnostic of it", x.state(0, 1), 0);
        x.term(2, 1, 0);
        x.sort(0, 0, 1, false);
        due("what was presented is not sorted", x.at(0, 0), 1);
        x.drop(0, 0);
        due("nor dropped", x.at(0, 1), 2);
        x.close(0);
        due("nor closed", x.at(0, 1), 2);
    }

    private static void sort() {
        promise = "11 sort";
        SearchWire x = withTerms(5, 0, 999, 5, 0, 7, 7);
        for (int i = 0; i < 7; i++) {
            x.term(i, 1, new int[] {3, -1, 0, 3, -1, 999, 0}[i]);
        }
        x.question(1, 0, 0, 999);
        x.session(5, 1000);
        x.search(0, 0, 2);
        due("up", x.sort(0, 2, 1, false), 2);
        dueRow("up", x, 0, 2, 2, 6, 0, 3, 5, 1, 4);
        due("down", x.sort(0, 2, 1, true), 2);
        dueRow("down", x, 0, 2, 5, 0, 3, 2, 6, 1, 4);
        due("by another index", x.sort(0, 2, 0, true), 0);
        dueRow("of the same term as they stood", x, 0, 2, 2, 5, 6, 0, 3, 1, 4);
        due("by an index of none", x.sort(0, 2, 4, true), 7);
        dueRow("none has a term", x, 0, 2, 2, 5, 6, 0, 3, 1, 4);
        x.term(4, 4, 1);
        due("a term of now", x.sort(0, 2, 4, false), 6);
        dueRow("a term of now", x, 0, 2, 4, 2, 5, 6, 0, 3, 1);
        x.search(0, 0, 3);
        dueRow("another set is by numbers", x, 0, 3, 0, 1, 2, 3, 4, 5, 6);
        x.question(0, 0, 1, 0);
        x.search(0, 1, 3);
        due("an empty set", x.sort(0, 3, 0, true), 0);
    }

    private static void sortDiagnostics() {
        for (int bad : new int[] {-1, 1, 8, MIN, MAX}) {
            due("session " + bad, withSizes(1, 1).sort(bad, 9, 9, true), -101);
        }
        SearchWire x = withSizes(1, 1);
        x.session(6, 1);
        due("it may not sort", x.sort(1, 9, 9, true), -102);
        due("its code", x.state(1, 2), 102);
        for (int bad : new int[] {-1, 1, 5, MIN, MAX}) {
            due("set " + bad, withSizes(1, 1).sort(0, bad, 9, true), -104);
        }
        for (int bad : new int[] {-1, 5, MIN, MAX}) {
            SearchWire y = withSizes(1, 1);
            due("index " + bad, y.sort(0, 0, bad, true), -106);
            due("its code", y.state(0, 2), 106);
        }
    }

    private static void scan() {
        promise = "12 scan";
        SearchWire x = withTerms(30, 10, -1, 20, 10, 0, 999);
        x.session(2, 1);
        dueScan("all", x, x.scan(0, 0, 0, 20, 0), 0, 10, 20, 30, 999);
        dueScan("two", x, x.scan(0, 0, 0, 2, 0), 0, 10);
        dueScan("from 10", x, x.scan(0, 0, 10, 20, 0), 10, 20, 30, 999);
        dueScan("from 11", x, x.scan(0, 0, 11, 20, 0), 20, 30, 999);
        dueScan("from 999", x, x.scan(0, 0, 999, 20, 0), 999);
        x.term(6, 0, -1);
        dueScan("beyond the last", x, x.scan(0, 0, 999, 20, 0));
        due("no diagnostic of it", x.state(0, 1), 0);
        SearchWire many = new SearchWire();
        for (int i = 0; i < 30; i++) {
            many.record(1);
            many.term(i, 3, 29 - i);
        }
        many.session(2, 1);
        due("twenty at most", many.scan(0, 3, 15, 20, 9), 20);
        due("the first", scannedOrThrown(many, 0, 0, 0), 6);
        due("the asked one", scannedOrThrown(many, 0, 9, 0), 15);
        due("the last", scannedOrThrown(many, 0, 19, 0), 25);
        due("none behind", scannedOrThrown(many, 0, 20, 0), THROWN);
    }

    private static void scanPlaces() {
        SearchWire x = withTerms(40, 10, 20, 30, 20);
        x.session(2, 1);
        dueScan("place 1", x, x.scan(0, 0, 25, 20, 1), 20, 30, 40);
        dueScan("place 2", x, x.scan(0, 0, 30, 2, 2), 10, 20);
        dueScan("fewer before", x, x.scan(0, 0, 20, 20, 9), 10, 20, 30, 40);
        dueScan("none before", x, x.scan(0, 0, 0, 2, 9), 10, 20);
        dueScan("fewer than the place", x, x.scan(0, 0, 40, 1, 2), 20);
        dueScan("beyond, place 1", x, x.scan(0, 0, 41, 20, 1), 40);
        dueScan("beyond, place 3", x, x.scan(0, 0, 999, 2, 3), 20, 30);
        dueScan("beyond, place 9", x, x.scan(0, 0, 999, 20, 9), 10, 20, 30, 40);
    }

    private static void scanDiagnostics() {
        for (int bad : new int[] {-1, 1, 8, MIN, MAX}) {
            due("session " + bad, withSizes(1, 1).scan(bad, 9, -1, 0, -1), -101);
        }
        SearchWire x = withSizes(1, 1);
        x.session(5, 1);
        due("it may not scan", x.scan(1, 9, -1, 0, -1), -102);
        due("its code", x.state(1, 2), 102);
        for (int bad : new int[] {-1, 5, MIN, MAX}) {
            due("index " + bad, withSizes(1, 1).scan(0, bad, -1, 0, -1), -106);
        }
        int[][] numbers = {{-1, 1, 0}, {1000, 1, 0}, {MIN, 1, 0}, {MAX, 1, 0}, {0, 0, 0}, {0, 21, 0},
            {0, MIN, 0}, {0, MAX, 0}, {0, 1, -1}, {0, 1, 10}, {0, 1, MIN}, {0, 1, MAX}};
        for (int[] row : numbers) {
            SearchWire y = withSizes(1, 1);
            due("scan first", y.scan(0, 0, 0, 1, 0), 1);
            due("107 before 108", y.scan(0, 4, row[0], row[1], row[2]), -107);
            due("its code", y.state(0, 2), 107);
            due("nothing found", y.scan(0, 4, 0, 20, 9), -108);
            due("counted", y.state(0, 1), 2);
            due("what was scanned stays", scannedOrThrown(y, 0, 0, 0), 1);
        }
    }

    private static void scanned() {
        promise = "13 scanned";
        SearchWire x = withTerms(30, 10, -1, 20, 10, 10);
        x.session(2, 1);
        due("none was scanned", scannedOrThrown(x, 0, 0, 0), THROWN);
        x.scan(0, 0, 0, 20, 0);
        int[][] want = {{10, 3}, {20, 1}, {30, 1}};
        for (int i = 0; i < 3; i++) {
            due("term " + i, scannedOrThrown(x, 0, i, 0), want[i][0]);
            due("records " + i, scannedOrThrown(x, 0, i, 1), want[i][1]);
        }
        for (int bad : new int[] {-1, 3, 20, MIN, MAX}) {
            due("term " + bad, scannedOrThrown(x, 0, bad, 0), THROWN);
            due("term " + bad + ", another what", scannedOrThrown(x, 0, bad, 2), THROWN);
        }
        for (int bad : new int[] {-1, 2, MIN, MAX}) {
            due("what " + bad, scannedOrThrown(x, 0, 0, bad), -1);
        }
        for (int bad : new int[] {-1, 1, 7, 8, MIN, MAX}) {
            due("session " + bad, scannedOrThrown(x, bad, 0, 0), THROWN);
        }
        x.term(1, 0, -1);
        due("how many had it", scannedOrThrown(x, 0, 0, 1), 3);
        x.close(0);
        due("of a closed session", scannedOrThrown(x, 0, 0, 1), 3);
    }

    private static void drop() {
        promise = "14 drop";
        SearchWire x = withSizes(100, 1, 2);
        x.search(0, 0, 4);
        due("sets", x.state(0, 3), 2);
        due("drop", x.drop(0, 4), 1);
        due("sets", x.state(0, 3), 1);
        due("its size", x.size(0, 4), -104);
        due("the other's", x.size(0, 0), 2);
        due("drop again", x.drop(0, 4), -104);
        due("its code", x.state(0, 2), 104);
        due("made again", x.search(0, 0, 4), 2);
        for (int bad : new int[] {-1, 1, 5, MIN, MAX}) {
            due("set " + bad, withSizes(1, 1).drop(0, bad), -104);
        }
        for (int bad : new int[] {-1, 1, 8, MIN, MAX}) {
            due("session " + bad, withSizes(1, 1).drop(bad, 0), -101);
        }
    }

    private static void close() {
        promise = "15 close";
        SearchWire x = withSizes(100, 1, 2);
        x.search(0, 0, 1);
        x.search(0, 0, 4);
        x.drop(0, 1);
        due("two sets", x.close(0), 2);
        due("closed", x.state(0, 0), 2);
        due("no sets", x.state(0, 3), 0);
        due("again", x.close(0), -101);
        due("search", x.search(0, 0, 0), -101);
        due("present", x.present(0, 0, 0, 1), -101);
        due("sort", x.sort(0, 0, 0, true), -101);
        due("scan", x.scan(0, 0, 0, 1, 0), -101);
        due("drop", x.drop(0, 0), -101);
        due("101 is not counted", x.state(0, 1), 0);
        due("nor told", x.state(0, 2), 0);
        for (int bad : new int[] {-1, 1, 7, 8, MIN, MAX}) {
            due("session " + bad, x.close(bad), -101);
        }
        due("the next one is new", x.session(7, 1), 1);
        due("of no sets", x.close(1), 0);
    }

    private static void closeByThirdDiagnostic() {
        SearchWire x = withSizes(100, 1, 2);
        x.present(0, 0, 0, 2);
        x.scan(0, 0, 0, 1, 0);
        due("first", x.search(0, 9, 0), -103);
        due("second", x.present(0, 0, 0, 0), -107);
        due("open", x.state(0, 0), 1);
        due("sets", x.state(0, 3), 1);
        due("third, as usual", x.sort(0, 0, 5, true), -106);
        due("closed", x.state(0, 0), 2);
        due("sets", x.state(0, 3), 0);
        due("close", x.close(0), -101);
        due("at", x.at(0, 1), 1);
        due("scanned", scannedOrThrown(x, 0, 0, 1), 2);
        due("three", x.state(0, 1), 3);
        due("latest", x.state(0, 2), 106);
    }

    private static void state() {
        promise = "16 state";
        SearchWire x = withSizes(100, 1, 2);
        x.session(0, 1);
        for (int bad : new int[] {-1, 8, MIN, MAX}) {
            for (int what = 0; what < 4; what++) {
                due("session " + bad, x.state(bad, what), -1);
            }
        }
        for (int bad : new int[] {-1, 4, MIN, MAX}) {
            due("what " + bad, x.state(0, bad), -1);
            due("what " + bad + " of one never opened", x.state(7, bad), -1);
        }
        for (int set = 0; set < 5; set++) {
            x.search(0, 0, set);
            due("sets", x.state(0, 3), set + 1);
        }
        x.drop(0, 5);
        due("a diagnostic", x.state(0, 1), 1);
        due("104", x.state(0, 2), 104);
        x.present(0, 0, 2, 1);
        due("two diagnostics", x.state(0, 1), 2);
        due("105", x.state(0, 2), 105);
        x.present(0, 0, 0, 1);
        due("the latest code stays", x.state(0, 2), 105);
        due("the other session's", x.state(1, 1), 0);
        due("the other session's", x.state(1, 2), 0);
        due("open", x.state(0, 0), 1);
        due("never opened", x.state(2, 0), 0);
    }
}
