/** The sentences about a new object, records, terms and questions: promises 1 to 4. */
public final class StoreTests extends Sentences {
    private static final int[] NO_INDEX = {-1, 5, MIN, MAX};
    private static final int[] NO_VALUE = {-1, 1000, MIN, MAX};

    public static void main(String[] args) {
        sentence(0, "NONE = -1", () -> due("NONE", SearchWire.NONE, -1));
        sentence(1, "No records", StoreTests::noRecords);
        sentence(1, "no questions", StoreTests::noQuestions);
        sentence(1, "no session was opened", StoreTests::noSessionOpened);
        sentence(1, "A new object", StoreTests::objectsShareNothing);
        sentence(2, "A record more, of a size", StoreTests::recordOfASize);
        sentence(2, "without TERMS", StoreTests::recordWithoutTerms);
        sentence(2, "its number", StoreTests::recordNumbers);
        sentence(2, "NONE if the size can't be", StoreTests::sizeThatCantBe);
        sentence(2, "or there are 100", StoreTests::hundredRecords);
        sentence(3, "A record's TERM of an index", StoreTests::termOfAnIndex);
        sentence(0, "at most one TERM", StoreTests::atMostOneTerm);
        sentence(3, "or none (-1): 1", StoreTests::noTerm);
        sentence(3, "NONE if there is none such (a record)", StoreTests::termOfNoRecord);
        sentence(3, "NONE if there is none such (an index)", StoreTests::termOfNoIndex);
        sentence(3, "or it can't be", StoreTests::termThatCantBe);
        sentence(4, "of kind 0 a index, b the value", StoreTests::termQuestion);
        sentence(4, "of 1 a index, from b to c", StoreTests::rangeQuestion);
        sentence(4, "of 2 to 4 a, b questions", StoreTests::pairQuestions);
        sentence(4, "its number", StoreTests::questionNumbers);
        sentence(4, "NONE if it can't be (a kind)", StoreTests::kindThatCantBe);
        sentence(4, "NONE if it can't be (an index)", StoreTests::questionOfNoIndex);
        sentence(4, "a value 0 .. 999", StoreTests::valuesOfQuestions);
        sentence(4, "from behind to", StoreTests::fromBehindTo);
        sentence(4, "a question that is not there", StoreTests::questionNotThere);
        sentence(4, "or there are 40", StoreTests::fortyQuestions);
        finish();
    }

    private static void noRecords() {
        SearchWire x = new SearchWire();
        due("term of record 0", x.term(0, 0, 1), -1);
        due("none of record 0", x.term(0, 0, -1), -1);
        x.question(1, 0, 0, 999);
        x.session(7, 1);
        due("search", x.search(0, 0, 0), -108);
        due("scan", x.scan(0, 0, 0, 20, 9), -108);
        due("first record", x.record(1), 0);
    }

    private static void noQuestions() {
        SearchWire x = new SearchWire();
        for (int kind = 2; kind <= 4; kind++) {
            due("kind " + kind, x.question(kind, 0, 0, 0), -1);
        }
        x.session(7, 1);
        due("search", x.search(0, 0, 0), -103);
        due("first question", x.question(0, 0, 0, 0), 0);
    }

    private static void noSessionOpened() {
        SearchWire x = new SearchWire();
        for (int s = 0; s < 8; s++) {
            dueState("new", x, s, 0, 0, 0, 0);
            due("search", x.search(s, 0, 0), -101);
            due("size", x.size(s, 0), -101);
            due("present", x.present(s, 0, 0, 1), -101);
            dueSegment("new", x, s, 0, -1, -1, -1, -1);
            due("at", x.at(s, 0), -1);
            due("sort", x.sort(s, 0, 0, true), -101);
            due("scan", x.scan(s, 0, 0, 1, 0), -101);
            due("scanned", scanned(x, s, 0, 0), THROWN);
            due("drop", x.drop(s, 0), -101);
            due("close", x.close(s), -101);
            dueState("101 is counted for no session", x, s, 0, 0, 0, 0);
        }
        due("first session", x.session(0, 1), 0);
    }

    private static void objectsShareNothing() {
        SearchWire used = withSizes(10, 1, 2, 3);
        SearchWire x = new SearchWire();
        dueState("new", x, 0, 0, 0, 0, 0);
        due("question", x.question(2, 0, 0, 0), -1);
        due("record", x.record(9), 0);
        dueSet("the other", used, 0, 0, 0, 1, 2);
        dueSegment("the other", used, 0, 0, 0, 3, 6, 0);
    }

    private static void recordOfASize() {
        SearchWire x = withSizes(1000, 1, 200, 2, 199);
        int[] sizes = {1, 200, 2, 199};
        for (int r = 0; r < sizes.length; r++) {
            x.present(0, 0, r, 1);
            due("bytes of " + r, x.segment(0, 0, 2), sizes[r]);
        }
    }

    private static void recordWithoutTerms() {
        SearchWire x = new SearchWire();
        x.session(3, 1);
        x.session(3, 1);
        x.record(1);
        for (int index = 0; index < 5; index++) {
            due("scan " + index, x.scan(index / 3, index, 0, 1, 0), -108);
            x.question(1, index, 0, 999);
            x.term(0, index, 500);
        }
        x.record(1);
        for (int index = 0; index < 5; index++) {
            dueFound("index " + index, x, index, 0);
        }
    }

    private static void recordNumbers() {
        SearchWire x = new SearchWire();
        for (int r = 0; r < 100; r++) {
            due("record", x.record(1 + r), r);
            due("it is there", x.term(r, 0, 0), 1);
            due("the next is not", x.term(r + 1, 0, 0), -1);
        }
    }

    private static void sizeThatCantBe() {
        SearchWire x = withSizes(1000, 200, 1);
        for (int bad : ints(0, -1, 201, MIN, MAX)) {
            due("record(" + bad + ")", x.record(bad), -1);
            due("no record is more", x.term(2, 0, 1), -1);
        }
        dueSet("the others", x, 0, 0, 0, 1);
        dueSegment("the others", x, 0, 0, 0, 2, 201, 0);
        due("record(1)", x.record(1), 2);
        due("record(200)", x.record(200), 3);
    }

    private static void hundredRecords() {
        SearchWire x = new SearchWire();
        for (int r = 0; r < 99; r++) {
            x.record(7);
        }
        due("the last", x.record(200), 99);
        x.term(99, 4, 999);
        x.term(0, 0, 0);
        for (int size : ints(200, 7, 1, 0, 201)) {
            due("one more, of " + size, x.record(size), -1);
        }
        due("record 100", x.term(100, 4, 1), -1);
        x.question(0, 4, 999, 0);
        x.question(0, 0, 0, 0);
        dueFound("the last stays", x, 0, 99);
        dueSegment("the last stays", x, 0, 0, 0, 1, 200, 0);
        dueFound("the first stays", x, 1, 0);
        dueSegment("the first stays", x, 1, 0, 0, 1, 7, 0);
    }

    private static void termOfAnIndex() {
        SearchWire x = new SearchWire();
        for (int r = 0; r < 100; r++) {
            x.record(1);
        }
        for (int index = 0; index < 5; index++) {
            due("lowest, index " + index, x.term(0, index, 0), 1);
            due("highest, index " + index, x.term(99, index, 999), 1);
            x.question(0, index, 0, 0);
            x.question(0, index, 999, 0);
        }
        x.session(4, 1);
        for (int index = 0; index < 5; index++) {
            due("lowest", x.search(0, 2 * index, index), 1);
            dueSet("lowest, index " + index, x, 0, index, 0);
            due("highest", x.search(0, 2 * index + 1, index), 1);
            dueSet("highest, index " + index, x, 0, index, 99);
        }
        x.term(0, 2, 1);
        dueFound("another index", x, 2, 0);
        dueFound("that index", x, 4);
        dueFound("another record", x, 5, 99);
    }

    private static void atMostOneTerm() {
        SearchWire x = withTerms(3, 3);
        x.question(0, 0, 3, 0);
        x.question(0, 0, 4, 0);
        due("another", x.term(0, 0, 4), 1);
        dueFound("the first", x, 0, 1);
        dueFound("the second", x, 1, 0);
        x.session(2, 1);
        due("scan", x.scan(2, 0, 0, 20, 0), 2);
        due("records of the first", scanned(x, 2, 0, 1), 1);
        due("records of the second", scanned(x, 2, 1, 1), 1);
    }

    private static void noTerm() {
        SearchWire x = withTerms(0, 0);
        x.question(1, 0, 0, 999);
        due("none", x.term(0, 0, -1), 1);
        dueFound("one of two", x, 0, 1);
        due("none again", x.term(0, 0, -1), 1);
        due("none of an index that has none", x.term(0, 4, -1), 1);
        dueFound("one of two", x, 0, 1);
        due("and one again", x.term(0, 0, 999), 1);
        dueFound("both", x, 0, 0, 1);
    }

    private static void termOfNoRecord() {
        SearchWire x = withTerms(5, 5);
        x.question(1, 0, 0, 999);
        for (int bad : ints(-1, 2, 99, 100, MIN, MAX)) {
            due("term of " + bad, x.term(bad, 0, 7), -1);
            due("none of " + bad, x.term(bad, 0, -1), -1);
        }
        due("the last there is", x.term(1, 0, 6), 1);
        dueFound("no others", x, 0, 0, 1);
        x.record(1);
        dueFound("nor was it kept for a later one", x, 0, 0, 1);
    }

    private static void termOfNoIndex() {
        SearchWire x = withTerms(5);
        for (int bad : NO_INDEX) {
            due("index " + bad, x.term(0, bad, 7), -1);
            due("none of index " + bad, x.term(0, bad, -1), -1);
        }
        for (int index = 0; index < 5; index++) {
            x.question(0, index, 7, 0);
        }
        for (int index = 0; index < 5; index++) {
            dueFound("index " + index, x, index);
        }
    }

    private static void termThatCantBe() {
        SearchWire x = withTerms(5, -1);
        x.question(1, 0, 0, 999);
        x.question(0, 0, 5, 0);
        for (int bad : ints(-2, 1000, MIN, MAX)) {
            due("term " + bad, x.term(0, 0, bad), -1);
            due("term " + bad, x.term(1, 0, bad), -1);
        }
        dueFound("the term stays", x, 1, 0);
        dueFound("none stays", x, 0, 0);
    }

    private static void termQuestion() {
        SearchWire x = withTerms(5, 4, 6, 5, -1, 0, 999);
        x.term(1, 4, 5);
        x.term(4, 4, 0);
        x.term(0, 4, 999);
        int[][] asked = {{0, 5}, {0, 0}, {0, 999}, {4, 5}, {4, 0}, {4, 999}, {0, 7}};
        int[][] found = {{0, 3}, {5}, {6}, {1}, {4}, {0}, {}};
        for (int q = 0; q < asked.length; q++) {
            int c = q % 2 == 0 ? MIN : MAX;
            due("whatever c is", x.question(0, asked[q][0], asked[q][1], c), q);
        }
        for (int q = 0; q < asked.length; q++) {
            dueFound("question " + q, x, q, found[q]);
        }
    }

    private static void rangeQuestion() {
        SearchWire x = withTerms(10, 9, 20, 21, 15, -1, 0, 999);
        x.term(5, 4, 20);
        int[][] asked = {{0, 10, 20}, {0, 0, 0}, {0, 999, 999}, {0, 0, 999}, {0, 11, 14}, {4, 20, 20},
            {0, 9, 9}};
        int[][] found = {{0, 2, 4}, {6}, {7}, {0, 1, 2, 3, 4, 6, 7}, {}, {5}, {1}};
        for (int q = 0; q < asked.length; q++) {
            due("range", x.question(1, asked[q][0], asked[q][1], asked[q][2]), q);
        }
        for (int q = 0; q < asked.length; q++) {
            dueFound("question " + q, x, q, found[q]);
        }
    }

    private static void pairQuestions() {
        SearchWire x = withTerms(1, 1, 0, 0);
        x.term(0, 1, 1);
        x.term(2, 1, 1);
        x.question(0, 0, 1, 0);
        x.question(0, 1, 1, 0);
        int[][] asked = {{2, 0, 1}, {3, 0, 1}, {4, 0, 1}, {4, 1, 0}, {4, 3, 2}, {4, 6, 6}};
        int[][] found = {{0}, {0, 1, 2}, {1}, {2}, {1, 2}, {}};
        for (int q = 0; q < asked.length; q++) {
            int c = q % 2 == 0 ? MIN : MAX;
            due("pair", x.question(asked[q][0], asked[q][1], asked[q][2], c), q + 2);
        }
        for (int q = 0; q < asked.length; q++) {
            dueFound("pair " + q, x, q + 2, found[q]);
        }
    }

    private static void questionNumbers() {
        SearchWire x = new SearchWire();
        x.question(0, 0, 0, 0);
        for (int q = 1; q < 40; q++) {
            due("not there", x.question(2, q, 0, 0), -1);
            due("question", x.question(q % 5, 0, 0, 0), q);
        }
    }

    private static void kindThatCantBe() {
        SearchWire x = new SearchWire();
        x.question(0, 0, 0, 0);
        for (int bad : ints(-1, 5, MIN, MAX)) {
            due("kind " + bad, x.question(bad, 0, 0, 0), -1);
        }
        for (int kind = 0; kind < 5; kind++) {
            due("kind " + kind, x.question(kind, 0, 0, 0), kind + 1);
        }
    }

    private static void questionOfNoIndex() {
        SearchWire x = new SearchWire();
        for (int bad : NO_INDEX) {
            due("term, index " + bad, x.question(0, bad, 0, 0), -1);
            due("range, index " + bad, x.question(1, bad, 0, 0), -1);
        }
        due("term, index 0", x.question(0, 0, 0, 0), 0);
        due("term, index 4", x.question(0, 4, 0, 0), 1);
        due("range, index 0", x.question(1, 0, 0, 0), 2);
        due("range, index 4", x.question(1, 4, 0, 0), 3);
    }

    private static void valuesOfQuestions() {
        SearchWire x = new SearchWire();
        for (int bad : NO_VALUE) {
            due("value " + bad, x.question(0, 0, bad, 0), -1);
            due("from " + bad, x.question(1, 0, bad, 999), -1);
            due("to " + bad, x.question(1, 0, 0, bad), -1);
            due("both " + bad, x.question(1, 0, bad, bad), -1);
        }
        due("value 0", x.question(0, 0, 0, 0), 0);
        due("value 999", x.question(0, 0, 999, 0), 1);
        due("from 0 to 999", x.question(1, 0, 0, 999), 2);
        due("from 999", x.question(1, 0, 999, 999), 3);
        due("to 0", x.question(1, 0, 0, 0), 4);
    }

    private static void fromBehindTo() {
        SearchWire x = new SearchWire();
        due("from 1 to 0", x.question(1, 0, 1, 0), -1);
        due("from 999 to 998", x.question(1, 0, 999, 998), -1);
        due("from 999 to 0", x.question(1, 0, 999, 0), -1);
        due("from 500 to 500", x.question(1, 0, 500, 500), 0);
        due("from 500 to 501", x.question(1, 0, 500, 501), 1);
    }

    private static void questionNotThere() {
        SearchWire x = new SearchWire();
        x.question(0, 0, 0, 0);
        x.question(0, 0, 1, 0);
        for (int kind = 2; kind <= 4; kind++) {
            int next = kind;
            for (int bad : ints(-1, next, 39, 40, MIN, MAX)) {
                due("first " + bad, x.question(kind, bad, 0, 0), -1);
                due("second " + bad, x.question(kind, 0, bad, 0), -1);
                due("both " + bad, x.question(kind, bad, bad, 0), -1);
            }
            due("the latest and the first", x.question(kind, next - 1, 0, 0), next);
        }
        due("the first and the latest", x.question(2, 0, 4, 0), 5);
        due("the same twice", x.question(3, 5, 5, 0), 6);
    }

    private static void fortyQuestions() {
        SearchWire x = withTerms(1, 2);
        x.question(0, 0, 1, 0);
        for (int q = 1; q < 39; q++) {
            x.question(0, 0, 1, 0);
        }
        due("the last", x.question(4, 0, 38, 0), 39);
        for (int kind = 0; kind < 5; kind++) {
            due("one more, of kind " + kind, x.question(kind, 0, 2, 2), -1);
        }
        dueFound("the first stays", x, 0, 0);
        dueFound("the last stays", x, 39);
        x.session(0, 1);
        due("there is no 40", x.search(2, 40, 0), -103);
    }
}
