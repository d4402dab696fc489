/** The sentences about what is presented, its segments and its records: promises 8 to 10. */
public final class PresentTests extends Sentences {
    private static final int[] NOT_OPEN = {-1, 1, 7, 8, MIN, MAX};

    public static void main(String[] args) {
        sentence(0, "records from a place on, n of them", PresentTests::rangeOfASet);
        sentence(0, "if they go beyond the set's end it is a DIAGNOSTIC", PresentTests::beyondTheEnd);
        sentence(0, "not more bytes than the limit", PresentTests::notMoreThanTheLimit);
        sentence(0, "as many records, in order, as", PresentTests::asManyAsFit);
        sentence(0, "one record at least", PresentTests::oneAtLeast);
        sentence(0, "MARKED as cut if it alone has more", PresentTests::marked);
        sentence(8, "how many SEGMENTS", PresentTests::howManySegments);
        sentence(8, "PRESENTED (a copy of the set)", PresentTests::copyOfTheSet);
        sentence(8, "101", PresentTests::presentInNoSession);
        sentence(8, "104", PresentTests::presentOfNoSet);
        sentence(8, "107 (n below 1)", PresentTests::numberBelowOne);
        sentence(8, "105", PresentTests::outOfTheSet);
        sentence(8, "105 (of an empty set)", PresentTests::presentOfEmptySet);
        sentence(8, "105 (numbers that wrap around)", PresentTests::presentWrappingAround);
        sentence(9, "what 0: its first record's place among them", PresentTests::firstPlaces);
        sentence(9, "1: how many records", PresentTests::recordsOfSegments);
        sentence(9, "2: their bytes", PresentTests::bytesOfSegments);
        sentence(9, "3: 1 if it is MARKED, else 0", PresentTests::marksOfSegments);
        sentence(9, "presented latest", PresentTests::latestSegments);
        sentence(9, "NONE if there is none such (a SEGMENT)", PresentTests::noSuchSegment);
        sentence(9, "NONE if there is none such (a session)", PresentTests::segmentOfNoSession);
        sentence(9, "or for another what", PresentTests::segmentOfAnotherWhat);
        sentence(10, "The record at a place, from 0 on", PresentTests::recordsAtPlaces);
        sentence(10, "presented latest", PresentTests::latestRecords);
        sentence(10, "NONE if there is none such (a place)", PresentTests::noSuchPlace);
        sentence(10, "NONE if there is none such (a session)", PresentTests::atInNoSession);
        finish();
    }

    /** Three records that were presented before a call that may be refused. */
    private static SearchWire presented() {
        SearchWire x = withSizes(5, 2, 3, 6, 1);
        x.present(0, 0, 0, 3);
        return x;
    }

    private static void duePresentedStays(SearchWire x) {
        duePresented("what was presented stays", x, 0, 0, 1, 2);
        dueSegment("what was presented stays", x, 0, 0, 0, 2, 5, 0);
        dueSegment("what was presented stays", x, 0, 1, 2, 1, 6, 1);
        dueSegment("what was presented stays", x, 0, 2, -1, -1, -1, -1);
    }

    private static void rangeOfASet() {
        SearchWire x = withSizes(1, 1, 1, 1, 1);
        for (int from = 0; from < 4; from++) {
            for (int n = 1; from + n <= 4; n++) {
                due("from " + from + ", " + n, x.present(0, 0, from, n), n);
                due("its first", x.at(0, 0), from);
                due("its last", x.at(0, n - 1), from + n - 1);
                due("its end", x.at(0, n), -1);
            }
        }
        x.search(0, 0, 4);
        x.term(3, 1, 1);
        x.sort(0, 4, 1, false);
        x.present(0, 4, 0, 2);
        duePresented("of a set that was sorted", x, 0, 3, 0);
    }

    private static void beyondTheEnd() {
        int[][] last = {{0, 4}, {1, 3}, {2, 2}, {3, 1}};
        for (int[] range : last) {
            SearchWire x = withSizes(1, 1, 1, 1, 1);
            due("up to the end", x.present(0, 0, range[0], range[1]), range[1]);
            due("one more", x.present(0, 0, range[0], range[1] + 1), -105);
            due("one later", x.present(0, 0, range[0] + 1, range[1]), -105);
            dueState("counted", x, 0, 1, 2, 105, 1);
        }
    }

    private static void notMoreThanTheLimit() {
        due("just the limit", withSizes(50, 20, 30).present(0, 0, 0, 2), 1);
        due("a byte less", withSizes(50, 20, 29).present(0, 0, 0, 2), 1);
        due("a byte more", withSizes(50, 20, 31).present(0, 0, 0, 2), 2);
        due("limit 1", withSizes(1, 1, 1).present(0, 0, 0, 2), 2);
        due("limit 1000", withSizes(1000, manySizes(5, 200)).present(0, 0, 0, 5), 1);
        due("and one more", withSizes(1000, manySizes(6, 200)).present(0, 0, 0, 6), 2);
    }

    private static void asManyAsFit() {
        SearchWire x = withSizes(10, 4, 4, 4, 9, 1, 1, 9, 2);
        due("present", x.present(0, 0, 0, 8), 5);
        dueSegment("two of three", x, 0, 0, 0, 2, 8, 0);
        dueSegment("the third, as the next is too large", x, 0, 1, 2, 1, 4, 0);
        dueSegment("9 and 1", x, 0, 2, 3, 2, 10, 0);
        dueSegment("1 and 9", x, 0, 3, 5, 2, 10, 0);
        dueSegment("a later one fills no earlier gap", x, 0, 4, 7, 1, 2, 0);
    }

    private static void oneAtLeast() {
        SearchWire x = withSizes(10, 11, 200, 1, 11, 1);
        due("present", x.present(0, 0, 0, 5), 5);
        for (int i = 0; i < 5; i++) {
            due("its place", x.segment(0, i, 0), i);
            due("one record", x.segment(0, i, 1), 1);
        }
    }

    private static void marked() {
        SearchWire x = withSizes(10, 10, 11, 5, 5, 9, 200, 1);
        due("present", x.present(0, 0, 0, 7), 6);
        int[] marks = {0, 1, 0, 0, 1, 0};
        for (int i = 0; i < 6; i++) {
            due("mark of " + i, x.segment(0, i, 3), marks[i]);
        }
        SearchWire y = withSizes(1, 1, 2);
        y.present(0, 0, 0, 2);
        due("limit 1, of 1 byte", y.segment(0, 0, 3), 0);
        due("limit 1, of 2 bytes", y.segment(0, 1, 3), 1);
        SearchWire z = withSizes(1000, 200);
        z.present(0, 0, 0, 1);
        due("limit 1000, of 200", z.segment(0, 0, 3), 0);
    }

    private static void howManySegments() {
        due("one record", withSizes(1, 1).present(0, 0, 0, 1), 1);
        SearchWire x = withSizes(9, manySizes(100, 10));
        due("100 records, each marked", x.present(0, 0, 0, 100), 100);
        dueSegment("the last", x, 0, 99, 99, 1, 10, 1);
        dueSegment("none behind it", x, 0, 100, -1, -1, -1, -1);
        due("the last record", x.at(0, 99), 99);
        SearchWire y = withSizes(1000, manySizes(100, 10));
        due("100 records in one", y.present(0, 0, 0, 100), 1);
        dueSegment("the only one", y, 0, 0, 0, 100, 1000, 0);
        SearchWire z = withSizes(1000, manySizes(100, 200));
        due("five in each", z.present(0, 0, 0, 100), 20);
        dueSegment("the last", z, 0, 19, 95, 5, 1000, 0);
    }

    private static void copyOfTheSet() {
        SearchWire x = presented();
        x.term(3, 1, 0);
        x.sort(0, 0, 1, false);
        duePresentedStays(x);
        x.search(0, 1, 0);
        duePresentedStays(x);
        x.drop(0, 0);
        duePresentedStays(x);
        x.session(7, 1);
        x.search(1, 0, 0);
        x.present(1, 0, 3, 1);
        duePresentedStays(x);
        duePresented("another session's", x, 1, 3);
    }

    private static void presentInNoSession() {
        SearchWire x = presented();
        for (int bad : NOT_OPEN) {
            due("session " + bad, x.present(bad, 0, 0, 1), -101);
            due("101 before 104", x.present(bad, 5, 9, 0), -101);
        }
        dueState("not counted", x, 0, 1, 0, 0, 1);
        x.close(0);
        due("closed", x.present(0, 0, 3, 1), -101);
        duePresentedStays(x);
    }

    private static void presentOfNoSet() {
        for (int bad : ints(-1, 1, 4, 5, MIN, MAX)) {
            SearchWire x = presented();
            due("set " + bad, x.present(0, bad, 0, 1), -104);
            dueState("counted", x, 0, 1, 1, 104, 1);
            due("104 before 107", x.present(0, bad, 9, 0), -104);
            duePresentedStays(x);
        }
        SearchWire x = presented();
        x.drop(0, 0);
        due("dropped", x.present(0, 0, 0, 1), -104);
        x.session(0, 1);
        due("none was made", x.present(1, 0, 0, 1), -104);
    }

    private static void numberBelowOne() {
        for (int bad : ints(0, -1, MIN, -MAX)) {
            SearchWire x = presented();
            due("n " + bad, x.present(0, 0, 0, bad), -107);
            dueState("counted", x, 0, 1, 1, 107, 1);
            due("107 before 105", x.present(0, 0, 9, bad), -107);
            duePresentedStays(x);
            due("n 1", x.present(0, 0, 0, 1), 1);
        }
        SearchWire x = presented();
        due("107 before 105, below 0", x.present(0, 0, -1, 0), -107);
    }

    private static void outOfTheSet() {
        int[][] ranges = {{0, 5}, {1, 4}, {3, 2}, {4, 1}, {5, 1}, {-1, 1}, {-1, 5}, {-4, 4}};
        for (int[] range : ranges) {
            SearchWire x = presented();
            due("from " + range[0] + ", " + range[1], x.present(0, 0, range[0], range[1]), -105);
            dueState("counted", x, 0, 1, 1, 105, 1);
            duePresentedStays(x);
            due("the set stays", x.size(0, 0), 4);
        }
    }

    private static void presentOfEmptySet() {
        SearchWire x = presented();
        x.search(0, 1, 0);
        due("from 0", x.present(0, 0, 0, 1), -105);
        duePresentedStays(x);
        due("from -1", x.present(0, 0, -1, 1), -105);
        duePresentedStays(x);
    }

    private static void presentWrappingAround() {
        int[][] ranges = {{MAX, 1}, {1, MAX}, {0, MAX}, {MAX, MAX}, {MIN, 1}, {MIN, MAX}, {-1, MAX},
            {MAX - 1, 2}, {2, MAX - 1}, {-MAX, MAX}};
        for (int[] range : ranges) {
            SearchWire x = presented();
            due("from " + range[0] + ", " + range[1], x.present(0, 0, range[0], range[1]), -105);
            duePresentedStays(x);
        }
    }

    private static void firstPlaces() {
        SearchWire x = withSizes(10, 10, 4, 6, 10, 5);
        x.present(0, 0, 0, 5);
        int[] places = {0, 1, 3, 4};
        for (int i = 0; i < 4; i++) {
            due("segment " + i, x.segment(0, i, 0), places[i]);
        }
        x.present(0, 0, 2, 3);
        for (int i = 0; i < 3; i++) {
            due("among them, not in the set, " + i, x.segment(0, i, 0), i);
        }
    }

    private static void recordsOfSegments() {
        SearchWire x = withSizes(10, 11, 4, 6, 1, 2, 3);
        x.present(0, 0, 0, 6);
        int[] counts = {1, 2, 3, -1};
        for (int i = 0; i < 4; i++) {
            due("segment " + i, x.segment(0, i, 1), counts[i]);
        }
    }

    private static void bytesOfSegments() {
        SearchWire x = withSizes(10, 11, 4, 6, 1, 2, 3, 200);
        x.present(0, 0, 0, 7);
        int[] bytes = {11, 10, 6, 200, -1};
        for (int i = 0; i < 5; i++) {
            due("segment " + i, x.segment(0, i, 2), bytes[i]);
        }
    }

    private static void marksOfSegments() {
        SearchWire x = withSizes(10, 11, 4, 6, 10, 200);
        x.present(0, 0, 0, 5);
        int[] marks = {1, 0, 0, 1, -1};
        for (int i = 0; i < 5; i++) {
            due("segment " + i, x.segment(0, i, 3), marks[i]);
        }
    }

    private static void latestSegments() {
        SearchWire x = withSizes(10, 10, 20, 5, 5);
        x.present(0, 0, 0, 4);
        dueSegment("the first time", x, 0, 2, 2, 2, 10, 0);
        x.present(0, 0, 2, 2);
        dueSegment("the second time", x, 0, 0, 0, 2, 10, 0);
        dueSegment("no segment is left of the first", x, 0, 1, -1, -1, -1, -1);
    }

    private static void noSuchSegment() {
        SearchWire x = withSizes(5, 2, 3, 6);
        dueSegment("before it was presented any", x, 0, 0, -1, -1, -1, -1);
        due("two segments", x.present(0, 0, 0, 3), 2);
        for (int bad : ints(-1, 2, 3, 99, 100, MIN, MAX)) {
            dueSegment("presented", x, 0, bad, -1, -1, -1, -1);
        }
        due("no diagnostic", x.state(0, 1), 0);
    }

    private static void segmentOfNoSession() {
        SearchWire x = presented();
        for (int bad : NOT_OPEN) {
            dueSegment("session " + bad, x, bad, 0, -1, -1, -1, -1);
        }
        x.session(7, 1);
        dueSegment("open, but presented nothing", x, 1, 0, -1, -1, -1, -1);
        x.close(1);
        dueSegment("closed, but presented nothing", x, 1, 0, -1, -1, -1, -1);
        dueState("no diagnostic", x, 0, 1, 0, 0, 1);
    }

    private static void segmentOfAnotherWhat() {
        SearchWire x = presented();
        for (int bad : ints(-1, 4, MIN, MAX)) {
            due("what " + bad, x.segment(0, 0, bad), -1);
            due("what " + bad + " of the last", x.segment(0, 1, bad), -1);
        }
        due("no diagnostic", x.state(0, 1), 0);
        duePresentedStays(x);
    }

    private static void recordsAtPlaces() {
        SearchWire x = withSizes(1, manySizes(100, 1));
        x.present(0, 0, 0, 100);
        for (int r = 0; r < 100; r++) {
            due("at " + r, x.at(0, r), r);
        }
        x.present(0, 0, 98, 2);
        duePresented("from 98 on", x, 0, 98, 99);
    }

    private static void latestRecords() {
        SearchWire x = withSizes(1, 1, 1, 1);
        x.present(0, 0, 0, 3);
        duePresented("the first time", x, 0, 0, 1, 2);
        x.present(0, 0, 1, 1);
        duePresented("the second time", x, 0, 1);
        due("no record is left of the first", x.at(0, 2), -1);
    }

    private static void noSuchPlace() {
        SearchWire x = presented();
        for (int bad : ints(-1, 3, 4, 99, 100, MIN, MAX)) {
            due("at " + bad, x.at(0, bad), -1);
        }
        due("the last there is", x.at(0, 2), 2);
        due("no diagnostic", x.state(0, 1), 0);
        due("full", withFullRow().at(0, 100), -1);
    }

    private static SearchWire withFullRow() {
        SearchWire x = withSizes(1, manySizes(100, 1));
        x.present(0, 0, 0, 100);
        return x;
    }

    private static void atInNoSession() {
        SearchWire x = presented();
        for (int bad : NOT_OPEN) {
            due("session " + bad, x.at(bad, 0), -1);
        }
        x.session(7, 1);
        due("open, but presented nothing", x.at(1, 0), -1);
        x.close(1);
        due("closed, but presented nothing", x.at(1, 0), -1);
        dueState("no diagnostic", x, 0, 1, 0, 0, 1);
    }
}
