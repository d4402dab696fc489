/** The sentences about sorting sets and scanning the terms of an index: promises 11 to 13. */
public final class SortScanTests extends Sentences {
    private static final int[] NOT_OPEN = {-1, 1, 7, 8, MIN, MAX};
    private static final int[] NO_INDEX = {-1, 5, MIN, MAX};

    public static void main(String[] args) {
        sentence(0, "those with a TERM first, by TERM up", SortScanTests::sortedUp);
        sentence(0, "or down", SortScanTests::sortedDown);
        sentence(0, "of the same TERM as they stood", SortScanTests::sameTermAsTheyStood);
        sentence(0, "those without one behind, as they stood", SortScanTests::withoutTermBehind);
        sentence(11, "TO SORT (the empty, the least and the full)", SortScanTests::sizesOfSorts);
        sentence(11, "TO SORT (one set, by the terms of now)", SortScanTests::oneSetAlone);
        sentence(11, "how many records of the set have no TERM", SortScanTests::countOfNoTerm);
        sentence(11, "101", SortScanTests::sortInNoSession);
        sentence(11, "102", SortScanTests::sortWithoutOption);
        sentence(11, "104", SortScanTests::sortOfNoSet);
        sentence(11, "106", SortScanTests::sortByNoIndex);
        sentence(0, "that are there (of any record), in order, each once", SortScanTests::scanInOrder);
        sentence(0, "a row of up to n TERMS", SortScanTests::upToN);
        sentence(0, "the first TERM not below the one asked for", SortScanTests::firstNotBelow);
        sentence(0, "as far as there are enough before it", SortScanTests::enoughBefore);
        sentence(0, "if fewer, the row begins with the first one", SortScanTests::fewerBefore);
        sentence(12, "how many TERMS (none from the one asked for on)", SortScanTests::beyondTheLast);
        sentence(12, "101", SortScanTests::scanInNoSession);
        sentence(12, "102", SortScanTests::scanWithoutOption);
        sentence(12, "106", SortScanTests::scanOfNoIndex);
        sentence(12, "107 (a term not 0 .. 999", SortScanTests::scanFromNoTerm);
        sentence(12, "n not 1 .. 20", SortScanTests::scanOfNoNumber);
        sentence(12, "a place not 0 .. 9)", SortScanTests::scanAtNoPlace);
        sentence(12, "108 if there is none at all", SortScanTests::noTermAtAll);
        sentence(13, "what 0: the TERM", SortScanTests::termsTold);
        sentence(13, "1: how many records had it", SortScanTests::recordsThatHadIt);
        sentence(13, "what a session scanned latest", SortScanTests::scannedLatest);
        sentence(13, "if there is none such (a TERM)", SortScanTests::noSuchTerm);
        sentence(13, "if there is none such (a session)", SortScanTests::scannedInNoSession);
        sentence(13, "NONE for another what", SortScanTests::scannedOfAnotherWhat);
        finish();
    }

    /** Records with these terms of index 1 (-1: none), all in set 0 of session 0, that may all. */
    private static SearchWire toSort(int... terms) {
        SearchWire x = withSizes(1000, manySizes(terms.length, 1));
        for (int r = 0; r < terms.length; r++) {
            x.term(r, 1, terms[r]);
        }
        return x;
    }

    private static void sortedUp() {
        SearchWire x = toSort(500, -1, 999, 0, 501, 1, 998);
        due("sort", x.sort(0, 0, 1, false), 1);
        dueSet("up", x, 0, 0, 3, 5, 0, 4, 6, 2, 1);
        due("sort again", x.sort(0, 0, 1, false), 1);
        dueSet("up again", x, 0, 0, 3, 5, 0, 4, 6, 2, 1);
    }

    private static void sortedDown() {
        SearchWire x = toSort(500, -1, 999, 0, 501, 1, 998);
        due("sort", x.sort(0, 0, 1, true), 1);
        dueSet("down", x, 0, 0, 2, 6, 4, 0, 5, 3, 1);
        due("sort again", x.sort(0, 0, 1, true), 1);
        dueSet("down again", x, 0, 0, 2, 6, 4, 0, 5, 3, 1);
    }

    private static void sameTermAsTheyStood() {
        SearchWire x = toSort(5, 3, 5, 3, 5);
        for (int r = 0; r < 5; r++) {
            x.term(r, 2, 4 - r);
        }
        x.sort(0, 0, 1, true);
        dueSet("down", x, 0, 0, 0, 2, 4, 1, 3);
        x.sort(0, 0, 1, false);
        dueSet("up", x, 0, 0, 1, 3, 0, 2, 4);
        x.sort(0, 0, 2, false);
        dueSet("by another", x, 0, 0, 4, 3, 2, 1, 0);
        x.sort(0, 0, 1, false);
        dueSet("as they stood since, up", x, 0, 0, 3, 1, 4, 2, 0);
        x.sort(0, 0, 2, false);
        x.sort(0, 0, 1, true);
        dueSet("as they stood since, down", x, 0, 0, 4, 2, 0, 3, 1);
    }

    private static void withoutTermBehind() {
        SearchWire x = toSort(-1, 0, -1, 999, -1);
        x.sort(0, 0, 1, false);
        dueSet("up", x, 0, 0, 1, 3, 0, 2, 4);
        x.sort(0, 0, 1, true);
        dueSet("down", x, 0, 0, 3, 1, 0, 2, 4);
        for (int r = 0; r < 5; r++) {
            x.term(r, 2, 4 - r);
        }
        x.sort(0, 0, 2, false);
        x.sort(0, 0, 1, true);
        dueSet("as they stood since", x, 0, 0, 3, 1, 4, 2, 0);
        x.sort(0, 0, 4, true);
        dueSet("none has one", x, 0, 0, 3, 1, 4, 2, 0);
    }

    private static void sizesOfSorts() {
        SearchWire x = toSort(7);
        due("one", x.sort(0, 0, 1, true), 0);
        dueSet("one", x, 0, 0, 0);
        x.search(0, 1, 0);
        due("none", x.sort(0, 0, 1, true), 0);
        due("it stays empty", x.size(0, 0), 0);
        int[] terms = new int[100];
        for (int r = 0; r < 100; r++) {
            terms[r] = 99 - r;
        }
        SearchWire y = toSort(terms);
        due("a hundred", y.sort(0, 0, 1, false), 0);
        y.present(0, 0, 0, 100);
        for (int i = 0; i < 100; i++) {
            due("at " + i, y.at(0, i), 99 - i);
        }
    }

    private static void oneSetAlone() {
        SearchWire x = toSort(2, 1);
        x.search(0, 0, 4);
        x.session(7, 1);
        x.search(1, 0, 0);
        due("set 4", x.sort(0, 4, 1, false), 0);
        dueSet("set 4", x, 0, 4, 1, 0);
        dueSet("set 0 stays", x, 0, 0, 0, 1);
        dueSet("another session's stays", x, 1, 0, 0, 1);
        x.term(1, 1, 3);
        dueSet("a term that changes moves no record", x, 0, 4, 1, 0);
        due("sort again", x.sort(0, 4, 1, false), 0);
        dueSet("by the terms of now", x, 0, 4, 0, 1);
    }

    private static void countOfNoTerm() {
        SearchWire x = toSort(-1, 0, -1, 999);
        due("two", x.sort(0, 0, 1, false), 2);
        due("none", x.sort(0, 0, 0, false), 0);
        due("all", x.sort(0, 0, 4, false), 4);
        x.question(0, 1, 999, 0);
        x.search(0, 2, 1);
        due("of the set alone", x.sort(0, 1, 1, false), 0);
        x.term(3, 1, -1);
        due("of now", x.sort(0, 1, 1, false), 1);
    }

    private static void sortInNoSession() {
        SearchWire x = toSort(2, 1);
        for (int bad : NOT_OPEN) {
            due("session " + bad, x.sort(bad, 0, 1, false), -101);
            due("101 before 104", x.sort(bad, 5, 5, false), -101);
        }
        dueState("not counted", x, 0, 1, 0, 0, 1);
        dueSet("the set stays", x, 0, 0, 0, 1);
        x.session(0, 1);
        x.close(1);
        due("101 before 102", x.sort(1, 0, 1, false), -101);
    }

    private static void sortWithoutOption() {
        for (int options = 0; options < 8; options += 2) {
            SearchWire x = toSort(2, 1);
            x.session(options, 1000);
            x.search(1, 0, 0);
            due("options " + options, x.sort(1, 0, 1, false), -102);
            dueState("counted", x, 1, 1, 1, 102, 1);
            dueSet("the set stays", x, 1, 0, 0, 1);
            due("102 before 104", x.sort(1, 5, 5, false), -102);
        }
    }

    private static void sortOfNoSet() {
        for (int bad : ints(-1, 1, 4, 5, MIN, MAX)) {
            SearchWire x = toSort(2, 1);
            due("set " + bad, x.sort(0, bad, 1, false), -104);
            dueState("counted", x, 0, 1, 1, 104, 1);
            dueSet("the set there is stays", x, 0, 0, 0, 1);
            due("104 before 106", x.sort(0, bad, 5, false), -104);
        }
        SearchWire x = toSort(2, 1);
        x.drop(0, 0);
        due("dropped", x.sort(0, 0, 1, false), -104);
    }

    private static void sortByNoIndex() {
        for (int bad : NO_INDEX) {
            SearchWire x = toSort(2, 1);
            due("index " + bad, x.sort(0, 0, bad, false), -106);
            dueState("counted", x, 0, 1, 1, 106, 1);
            dueSet("the set stays", x, 0, 0, 0, 1);
        }
        SearchWire x = toSort(2, 1);
        due("index 0", x.sort(0, 0, 0, false), 0);
        due("index 4", x.sort(0, 0, 4, false), 2);
    }

    /** Records with these terms of index 0, and a session 0 that may scan. */
    private static SearchWire toScan(int... terms) {
        SearchWire x = withTerms(terms);
        x.session(2, 1);
        return x;
    }

    private static void dueScan(SearchWire x, int term, int n, int place, int... want) {
        String call = "scan from " + term + ", " + n + ", at " + place;
        due(call, x.scan(0, 0, term, n, place), want.length);
        dueScanned(call, x, 0, want);
    }

    private static void scanInOrder() {
        SearchWire x = toScan(30, 10, -1, 999, 10, 0, 30);
        x.term(2, 4, 40);
        x.term(0, 4, 5);
        dueScan(x, 0, 20, 0, 0, 10, 30, 999);
        due("another index", x.scan(0, 4, 0, 20, 0), 2);
        dueScanned("another index", x, 0, 5, 40);
        x.term(5, 0, -1);
        x.term(0, 0, 31);
        dueScan(x, 0, 20, 0, 10, 30, 31, 999);
    }

    private static SearchWire toScanHundred() {
        int[] terms = new int[100];
        for (int r = 0; r < 100; r++) {
            terms[r] = 10 * (99 - r);
        }
        return toScan(terms);
    }

    private static void upToN() {
        SearchWire x = toScan(4, 3, 2);
        dueScan(x, 0, 1, 0, 2);
        dueScan(x, 0, 2, 0, 2, 3);
        dueScan(x, 0, 3, 0, 2, 3, 4);
        dueScan(x, 0, 4, 0, 2, 3, 4);
        dueScan(x, 3, 2, 0, 3, 4);
        dueScan(x, 3, 1, 0, 3);
        dueScan(x, 4, 1, 2, 2);
        SearchWire y = toScanHundred();
        due("twenty", y.scan(0, 0, 0, 20, 0), 20);
        due("the first", scanned(y, 0, 0, 0), 0);
        due("the last", scanned(y, 0, 19, 0), 190);
        due("none behind", scanned(y, 0, 20, 0), THROWN);
        due("twenty, up to the last", y.scan(0, 0, 800, 20, 0), 20);
        due("the last", scanned(y, 0, 19, 0), 990);
        due("nineteen", y.scan(0, 0, 801, 20, 0), 19);
    }

    private static void firstNotBelow() {
        SearchWire x = toScan(10, 20, 30);
        dueScan(x, 19, 2, 0, 20, 30);
        dueScan(x, 20, 2, 0, 20, 30);
        dueScan(x, 21, 2, 0, 30);
        dueScan(x, 19, 2, 1, 10, 20);
        dueScan(x, 20, 2, 1, 10, 20);
        dueScan(x, 21, 2, 1, 20, 30);
        SearchWire y = toScan(0, 999);
        dueScan(y, 0, 2, 0, 0, 999);
        dueScan(y, 1, 2, 0, 999);
        dueScan(y, 999, 2, 0, 999);
        dueScan(y, 999, 2, 1, 0, 999);
    }

    private static void enoughBefore() {
        SearchWire x = toScanHundred();
        for (int place = 0; place < 10; place++) {
            due("place " + place, x.scan(0, 0, 495, 20, place), 20);
            due("the row's first", scanned(x, 0, 0, 0), 500 - 10 * place);
            due("the place has it", scanned(x, 0, place, 0), 500);
        }
        due("just enough", x.scan(0, 0, 90, 20, 9), 20);
        due("the row's first", scanned(x, 0, 0, 0), 0);
        due("the place has it", scanned(x, 0, 9, 0), 90);
        due("a row that ends before its place", x.scan(0, 0, 495, 3, 9), 3);
        dueScanned("it has those before", x, 0, 410, 420, 430);
    }

    private static void fewerBefore() {
        SearchWire x = toScan(10, 20, 30);
        dueScan(x, 10, 20, 1, 10, 20, 30);
        dueScan(x, 0, 20, 9, 10, 20, 30);
        dueScan(x, 20, 20, 1, 10, 20, 30);
        dueScan(x, 20, 20, 2, 10, 20, 30);
        dueScan(x, 30, 1, 9, 10);
        dueScan(x, 30, 2, 3, 10, 20);
        SearchWire y = toScanHundred();
        due("one too few", y.scan(0, 0, 80, 20, 9), 20);
        due("the first one", scanned(y, 0, 0, 0), 0);
        due("the asked one", scanned(y, 0, 8, 0), 80);
    }

    private static void beyondTheLast() {
        SearchWire x = toScan(10, 20, 30);
        dueScan(x, 30, 20, 0, 30);
        dueScan(x, 31, 20, 0);
        dueScan(x, 999, 20, 1, 30);
        dueScan(x, 999, 20, 2, 20, 30);
        dueScan(x, 999, 1, 3, 10);
        dueScan(x, 999, 20, 9, 10, 20, 30);
        dueScan(x, 999, 20, 0);
        dueState("no diagnostic", x, 0, 1, 0, 0, 0);
    }

    private static void dueScannedStays(SearchWire x) {
        dueScanned("what was scanned stays", x, 0, 10, 20);
        due("what was scanned stays", scanned(x, 0, 0, 1), 2);
    }

    private static SearchWire hasScanned() {
        SearchWire x = toScan(20, 10, 10);
        x.scan(0, 0, 0, 20, 0);
        return x;
    }

    private static void scanInNoSession() {
        SearchWire x = hasScanned();
        for (int bad : NOT_OPEN) {
            due("session " + bad, x.scan(bad, 0, 0, 1, 0), -101);
            due("101 before 106", x.scan(bad, 5, -1, 0, -1), -101);
        }
        dueState("not counted", x, 0, 1, 0, 0, 0);
        x.close(0);
        due("closed", x.scan(0, 0, 15, 20, 0), -101);
        dueScannedStays(x);
        x.session(0, 1);
        x.close(1);
        due("101 before 102", x.scan(1, 0, 0, 1, 0), -101);
    }

    private static void scanWithoutOption() {
        for (int options : ints(0, 1, 4, 5)) {
            SearchWire x = hasScanned();
            x.session(options, 1);
            due("options " + options, x.scan(1, 0, 0, 1, 0), -102);
            dueState("counted", x, 1, 1, 1, 102, 0);
            due("102 before 106", x.scan(1, 5, -1, 0, -1), -102);
            due("nothing was scanned", scanned(x, 1, 0, 0), THROWN);
        }
    }

    private static void scanOfNoIndex() {
        for (int bad : NO_INDEX) {
            SearchWire x = hasScanned();
            due("index " + bad, x.scan(0, bad, 0, 1, 0), -106);
            dueState("counted", x, 0, 1, 1, 106, 0);
            due("106 before 107", x.scan(0, bad, -1, 0, -1), -106);
            dueScannedStays(x);
        }
        SearchWire x = hasScanned();
        x.term(0, 4, 7);
        due("index 0", x.scan(0, 0, 0, 1, 0), 1);
        due("index 4", x.scan(0, 4, 0, 1, 0), 1);
    }

    private static void dueNoNumber(int term, int n, int place) {
        String call = "scan from " + term + ", " + n + ", at " + place;
        SearchWire x = hasScanned();
        due(call, x.scan(0, 0, term, n, place), -107);
        dueState("counted", x, 0, 1, 1, 107, 0);
        due("107 before 108", x.scan(0, 4, term, n, place), -107);
        dueScannedStays(x);
    }

    private static void scanFromNoTerm() {
        for (int bad : ints(-1, 1000, MIN, MAX)) {
            dueNoNumber(bad, 1, 0);
        }
        SearchWire x = toScan(0, 999);
        dueScan(x, 0, 20, 0, 0, 999);
        dueScan(x, 999, 20, 0, 999);
    }

    private static void scanOfNoNumber() {
        for (int bad : ints(0, -1, 21, MIN, MAX)) {
            dueNoNumber(0, bad, 0);
        }
        SearchWire x = toScanHundred();
        due("n 1", x.scan(0, 0, 0, 1, 0), 1);
        due("n 20", x.scan(0, 0, 0, 20, 0), 20);
    }

    private static void scanAtNoPlace() {
        for (int bad : ints(-1, 10, MIN, MAX)) {
            dueNoNumber(0, 1, bad);
        }
        SearchWire x = toScanHundred();
        due("place 0", x.scan(0, 0, 500, 1, 0), 1);
        dueScanned("place 0", x, 0, 500);
        due("place 9", x.scan(0, 0, 500, 1, 9), 1);
        dueScanned("place 9", x, 0, 410);
    }

    private static void noTermAtAll() {
        SearchWire x = hasScanned();
        due("an index of none", x.scan(0, 4, 0, 20, 9), -108);
        dueState("counted", x, 0, 1, 1, 108, 0);
        dueScannedStays(x);
        x.term(0, 4, 0);
        due("of one", x.scan(0, 4, 0, 20, 9), 1);
        due("of one, beyond it", x.scan(0, 4, 1, 20, 0), 0);
        x.term(0, 4, -1);
        due("of none again", x.scan(0, 4, 0, 20, 9), -108);
        dueState("counted", x, 0, 1, 2, 108, 0);
    }

    private static void termsTold() {
        SearchWire x = toScan(999, 0, 7);
        x.scan(0, 0, 0, 20, 0);
        due("0", scanned(x, 0, 0, 0), 0);
        due("1", scanned(x, 0, 1, 0), 7);
        due("2", scanned(x, 0, 2, 0), 999);
    }

    private static void recordsThatHadIt() {
        SearchWire x = toScan(7, 3, 7, -1, 7, 3, 9);
        x.term(3, 1, 3);
        x.scan(0, 0, 0, 20, 0);
        due("3", scanned(x, 0, 0, 1), 2);
        due("7", scanned(x, 0, 1, 1), 3);
        due("9", scanned(x, 0, 2, 1), 1);
        x.term(6, 0, 7);
        x.term(1, 0, -1);
        due("3, as it was", scanned(x, 0, 0, 1), 2);
        due("7, as it was", scanned(x, 0, 1, 1), 3);
        due("9, as it was", scanned(x, 0, 2, 1), 1);
        SearchWire y = toScan(manySizes(100, 5));
        y.scan(0, 0, 0, 20, 0);
        due("a hundred", scanned(y, 0, 0, 1), 100);
    }

    private static void scannedLatest() {
        SearchWire x = toScan(10, 20, 30);
        x.session(2, 1);
        dueScan(x, 0, 20, 0, 10, 20, 30);
        due("another session", x.scan(1, 0, 30, 20, 0), 1);
        dueScanned("the other's", x, 1, 30);
        dueScanned("the first's", x, 0, 10, 20, 30);
        dueScan(x, 20, 1, 0, 20);
        due("none is left of the one before", scanned(x, 0, 2, 0), THROWN);
        dueScan(x, 999, 1, 0);
    }

    private static void noSuchTerm() {
        SearchWire x = toScan(10, 20, 30);
        for (int bad : ints(0, -1, 1, MIN, MAX)) {
            due("before it scanned any, " + bad, scanned(x, 0, bad, 0), THROWN);
        }
        x.scan(0, 0, 0, 20, 0);
        for (int bad : ints(-1, 3, 19, 20, 21, MIN, MAX)) {
            for (int what : ints(0, 1, 2, -1, MIN, MAX)) {
                due("term " + bad + ", what " + what, scanned(x, 0, bad, what), THROWN);
            }
        }
        due("the last there is", scanned(x, 0, 2, 0), 30);
        dueState("no diagnostic", x, 0, 1, 0, 0, 0);
        SearchWire y = toScanHundred();
        y.scan(0, 0, 0, 20, 0);
        due("the last of twenty", scanned(y, 0, 19, 1), 1);
        due("behind twenty", scanned(y, 0, 20, 1), THROWN);
    }

    private static void scannedInNoSession() {
        SearchWire x = hasScanned();
        for (int bad : NOT_OPEN) {
            for (int what : ints(0, 1, 2)) {
                due("session " + bad + ", what " + what, scanned(x, bad, 0, what), THROWN);
            }
        }
        x.session(2, 1);
        due("open, but scanned nothing", scanned(x, 1, 0, 0), THROWN);
        x.close(1);
        due("closed, but scanned nothing", scanned(x, 1, 0, 0), THROWN);
        dueState("no diagnostic", x, 0, 1, 0, 0, 0);
    }

    private static void scannedOfAnotherWhat() {
        SearchWire x = hasScanned();
        for (int bad : ints(-1, 2, 3, MIN, MAX)) {
            due("what " + bad, scanned(x, 0, 0, bad), -1);
            due("what " + bad + " of the last", scanned(x, 0, 1, bad), -1);
        }
        dueState("no diagnostic", x, 0, 1, 0, 0, 0);
        dueScannedStays(x);
    }
}
