/** The sentences about sessions, from opening to closing, and their sets: promises 5 and 14 to 16. */
public final class SessionTests extends Sentences {
    private static final int[] NOT_OPEN = {-1, 1, 7, 8, MIN, MAX};

    public static void main(String[] args) {
        sentence(5, "its number, the least that was never opened", SessionTests::leastNeverOpened);
        sentence(5, "NONE if options are not 0 .. 7", SessionTests::optionsThatCantBe);
        sentence(5, "the limit is not 1 .. 1000", SessionTests::limitThatCantBe);
        sentence(5, "or there is none left", SessionTests::noneLeft);
        sentence(0, "SESSIONS are 0 .. 7", SessionTests::sessionsBesideTheEight);
        sentence(0, "OPTIONS, bits: 1 it may sort", SessionTests::optionToSort);
        sentence(0, "2 it may scan", SessionTests::optionToScan);
        sentence(0, "4 named sets", SessionTests::optionOfNamedSets);
        sentence(0, "It is CLOSED for good by close()", SessionTests::closedForGood);
        sentence(0, "by its third DIAGNOSTIC", SessionTests::closedByTheThird);
        sentence(0, "that call is answered as usual", SessionTests::thirdIsAnsweredAsUsual);
        sentence(0, "a CLOSED one has no sets", SessionTests::closedHasNoSets);
        sentence(0, "what it was presented and scanned latest stays", SessionTests::latestStays);
        sentence(0, "101 is counted for no session", SessionTests::notOpenIsNotCounted);
        sentence(14, "A set is no more: 1", SessionTests::dropped);
        sentence(14, "A set is no more: 1 (an empty one)", SessionTests::droppedEmpty);
        sentence(14, "101", SessionTests::dropInNoSession);
        sentence(14, "104", SessionTests::dropOfNoSet);
        sentence(15, "how many sets it had", SessionTests::closeTellsSets);
        sentence(15, "101", SessionTests::closeOfNoSession);
        sentence(16, "0 never opened, 1 open, 2 CLOSED", SessionTests::stateOfSession);
        sentence(16, "how many DIAGNOSTICS", SessionTests::diagnosticsCounted);
        sentence(16, "the code (101 .. 108) of the latest one, or 0", SessionTests::latestCode);
        sentence(16, "how many sets it has", SessionTests::setsCounted);
        sentence(16, "of one never opened all are 0", SessionTests::neverOpened);
        sentence(16, "NONE for none such", SessionTests::stateOfNoSession);
        sentence(16, "or another what", SessionTests::stateOfAnotherWhat);
        finish();
    }

    private static void leastNeverOpened() {
        SearchWire x = new SearchWire();
        for (int s = 0; s < 8; s++) {
            due("before", x.state(s, 0), 0);
            due("session", x.session(7, 1), s);
            due("behind", x.state(s, 0), 1);
            if (s % 3 == 0) {
                x.close(s);
            }
            if (s % 3 == 1) {
                x.drop(s, 0);
                x.drop(s, 0);
                x.drop(s, 0);
            }
        }
        due("closed by close", x.state(3, 0), 2);
        due("closed by its third diagnostic", x.state(4, 0), 2);
        due("neither", x.state(5, 0), 1);
    }

    private static void optionsThatCantBe() {
        SearchWire x = new SearchWire();
        for (int bad : ints(-1, 8, MIN, MAX)) {
            due("options " + bad, x.session(bad, 1), -1);
            due("none was opened", x.state(0, 0), 0);
        }
        for (int options = 0; options < 8; options++) {
            due("options " + options, x.session(options, 1), options);
        }
    }

    private static void limitThatCantBe() {
        SearchWire x = withSizes(1000, 200, 200, 200, 200, 199, 1, 1);
        for (int bad : ints(0, -1, 1001, MIN, MAX)) {
            due("limit " + bad, x.session(0, bad), -1);
            due("none was opened", x.state(1, 0), 0);
        }
        due("limit 1", x.session(0, 1), 1);
        due("limit 1000", x.session(0, 1000), 2);
        x.search(1, 0, 0);
        x.search(2, 0, 0);
        due("limit 1 holds one byte", x.present(1, 0, 5, 2), 2);
        dueSegment("limit 1", x, 1, 0, 0, 1, 1, 0);
        due("limit 1000 holds 1000 bytes", x.present(2, 0, 0, 6), 1);
        due("and not 1001", x.present(2, 0, 0, 7), 2);
        dueSegment("limit 1000", x, 2, 0, 0, 6, 1000, 0);
    }

    private static void noneLeft() {
        SearchWire x = new SearchWire();
        for (int s = 0; s < 7; s++) {
            x.session(0, 1);
        }
        due("the last", x.session(7, 1000), 7);
        due("one more", x.session(7, 1000), -1);
        dueState("the last", x, 7, 1, 0, 0, 0);
        for (int s = 0; s < 8; s++) {
            due("close " + s, x.close(s), 0);
            due("one more", x.session(0, 1), -1);
            due("it stays closed", x.state(s, 0), 2);
        }
    }

    private static void optionToSort() {
        for (int options = 0; options < 8; options++) {
            SearchWire x = withSizes(1, 1);
            x.session(options, 1);
            x.search(1, 0, 0);
            due("options " + options, x.sort(1, 0, 0, true), (options & 1) != 0 ? 0 : -102);
        }
    }

    private static void optionToScan() {
        for (int options = 0; options < 8; options++) {
            SearchWire x = withSizes(1, 1);
            x.session(options, 1);
            due("options " + options, x.scan(1, 0, 0, 1, 0), (options & 2) != 0 ? 1 : -102);
        }
    }

    private static void optionOfNamedSets() {
        for (int options = 0; options < 8; options++) {
            SearchWire x = withSizes(1, 1);
            x.session(options, 1);
            due("set 0", x.search(1, 0, 0), 1);
            due("set 4, options " + options, x.search(1, 0, 4), (options & 4) != 0 ? 1 : -104);
            due("sets", x.state(1, 3), (options & 4) != 0 ? 2 : 1);
        }
    }

    /** Every call that needs an open session, on one that is not. */
    private static void dueNotOpen(SearchWire x, int session) {
        due("search", x.search(session, 0, 0), -101);
        due("size", x.size(session, 0), -101);
        due("present", x.present(session, 0, 0, 1), -101);
        due("sort", x.sort(session, 0, 0, true), -101);
        due("scan", x.scan(session, 0, 0, 1, 0), -101);
        due("drop", x.drop(session, 0), -101);
        due("close", x.close(session), -101);
    }

    private static void sessionsBesideTheEight() {
        SearchWire x = withSizes(1, 1);
        for (int s = 1; s < 8; s++) {
            x.session(7, 1);
        }
        for (int bad : ints(-1, 8, 9, MIN, MAX)) {
            dueNotOpen(x, bad);
            dueSegment("session " + bad, x, bad, 0, -1, -1, -1, -1);
            due("at", x.at(bad, 0), -1);
            due("scanned", scanned(x, bad, 0, 0), THROWN);
            dueState("session " + bad, x, bad, -1, -1, -1, -1);
        }
        for (int s = 0; s < 8; s++) {
            dueState("the eight stay", x, s, 1, 0, 0, s == 0 ? 1 : 0);
            due("and can be used", x.search(s, 0, 0), 1);
        }
    }

    private static void closedForGood() {
        SearchWire x = withSizes(1, 1);
        due("close", x.close(0), 1);
        dueNotOpen(x, 0);
        dueState("closed", x, 0, 2, 0, 0, 0);
        due("another", x.session(7, 1), 1);
        dueNotOpen(x, 0);
        dueState("closed still", x, 0, 2, 0, 0, 0);
        dueState("the other", x, 1, 1, 0, 0, 0);
    }

    private static void closedByTheThird() {
        SearchWire x = withSizes(1, 1);
        x.session(7, 1);
        due("first", x.drop(0, 1), -104);
        dueState("one", x, 0, 1, 1, 104, 1);
        due("second", x.drop(0, 1), -104);
        dueState("two", x, 0, 1, 2, 104, 1);
        due("still used", x.size(0, 0), 1);
        due("third", x.drop(0, 1), -104);
        dueState("three", x, 0, 2, 3, 104, 0);
        dueNotOpen(x, 0);
        dueState("no fourth", x, 0, 2, 3, 104, 0);
        dueState("another session", x, 1, 1, 0, 0, 0);
    }

    /** A session with two diagnostics and a set 0, that may not sort nor scan if options are 4. */
    private static SearchWire beforeTheThird(int options) {
        SearchWire x = withSizes(1, 1);
        x.session(options, 1);
        x.search(1, 0, 0);
        x.drop(1, 1);
        x.drop(1, 1);
        return x;
    }

    private static void dueThird(SearchWire x, int got, int code) {
        due("third", got, -code);
        dueState("closed by " + code, x, 1, 2, 3, code, 0);
    }

    private static void thirdIsAnsweredAsUsual() {
        SearchWire x = beforeTheThird(4);
        dueThird(x, x.sort(1, 0, 0, true), 102);
        x = beforeTheThird(4);
        dueThird(x, x.scan(1, 0, 0, 1, 0), 102);
        x = beforeTheThird(7);
        dueThird(x, x.search(1, 2, 0), 103);
        x = beforeTheThird(7);
        dueThird(x, x.search(1, 0, 5), 104);
        x = beforeTheThird(7);
        dueThird(x, x.search(1, 1, 0), 108);
        x = beforeTheThird(7);
        dueThird(x, x.present(1, 1, 0, 1), 104);
        x = beforeTheThird(7);
        dueThird(x, x.present(1, 0, 0, 2), 105);
        x = beforeTheThird(7);
        dueThird(x, x.present(1, 0, 0, 0), 107);
        x = beforeTheThird(7);
        dueThird(x, x.sort(1, 1, 0, true), 104);
        x = beforeTheThird(7);
        dueThird(x, x.sort(1, 0, 5, true), 106);
        x = beforeTheThird(7);
        dueThird(x, x.scan(1, 5, 0, 1, 0), 106);
        x = beforeTheThird(7);
        dueThird(x, x.scan(1, 0, 0, 0, 0), 107);
        x = beforeTheThird(7);
        dueThird(x, x.scan(1, 1, 0, 1, 0), 108);
        x = beforeTheThird(7);
        dueThird(x, x.drop(1, 1), 104);
    }

    private static void closedHasNoSets() {
        SearchWire x = withSizes(1, 1);
        x.session(7, 1);
        for (int set = 0; set < 5; set++) {
            x.search(0, 0, set);
            x.search(1, 0, set);
        }
        x.close(0);
        due("closed by close", x.state(0, 3), 0);
        due("the other's", x.state(1, 3), 5);
        x.present(1, 0, 0, 0);
        x.present(1, 0, 0, 0);
        due("after two diagnostics", x.state(1, 3), 5);
        x.present(1, 0, 0, 0);
        due("after three", x.state(1, 3), 0);
    }

    private static void latestStays() {
        for (int way = 0; way < 2; way++) {
            SearchWire x = withSizes(5, 2, 3, 6);
            x.present(0, 0, 0, 3);
            x.scan(0, 0, 0, 1, 0);
            for (int k = 0; k < 3; k++) {
                due("a diagnostic or the closing", way == 0 ? x.drop(0, 4) : x.close(0),
                    way == 0 ? -104 : k == 0 ? 1 : -101);
            }
            due("closed", x.state(0, 0), 2);
            duePresented("closed", x, 0, 0, 1, 2);
            dueSegment("closed", x, 0, 0, 0, 2, 5, 0);
            dueSegment("closed", x, 0, 1, 2, 1, 6, 1);
            dueSegment("closed", x, 0, 2, -1, -1, -1, -1);
            dueScanned("closed", x, 0, 1);
            due("records that had it", scanned(x, 0, 0, 1), 3);
        }
    }

    private static void notOpenIsNotCounted() {
        SearchWire x = withSizes(1, 1);
        x.session(7, 1);
        x.drop(1, 0);
        x.close(1);
        dueNotOpen(x, 1);
        dueNotOpen(x, 2);
        dueNotOpen(x, -1);
        dueNotOpen(x, 8);
        dueState("open", x, 0, 1, 0, 0, 1);
        dueState("closed", x, 1, 2, 1, 104, 0);
        dueState("never opened", x, 2, 0, 0, 0, 0);
    }

    private static void dropped() {
        SearchWire x = withSizes(1000, 1, 2);
        for (int set = 1; set < 5; set++) {
            x.search(0, 0, set);
        }
        x.present(0, 4, 0, 2);
        for (int set = 4; set >= 0; set--) {
            due("drop " + set, x.drop(0, set), 1);
            due("it is no more", x.size(0, set), -104);
            due("sets", x.state(0, 3), set);
        }
        duePresented("what was presented of it stays", x, 0, 0, 1);
        due("no diagnostic", x.state(0, 1), 0);
        due("made again", x.search(0, 0, 4), 2);
        due("sets", x.state(0, 3), 1);
        SearchWire y = withSizes(1, 1);
        y.session(0, 1);
        y.search(1, 0, 0);
        due("without named sets", y.drop(1, 0), 1);
        due("it is no more", y.size(1, 0), -104);
        due("another session's stays", y.size(0, 0), 1);
    }

    private static void droppedEmpty() {
        SearchWire x = withSizes(1, 1);
        x.search(0, 1, 3);
        due("drop", x.drop(0, 3), 1);
        due("no more", x.size(0, 3), -104);
        due("one diagnostic", x.state(0, 1), 1);
    }

    private static void dropInNoSession() {
        for (int bad : NOT_OPEN) {
            SearchWire x = withSizes(1, 1);
            due("session " + bad, x.drop(bad, 0), -101);
            due("101 before 104", x.drop(bad, 5), -101);
            dueState("the open one", x, 0, 1, 0, 0, 1);
        }
    }

    private static void dropOfNoSet() {
        for (int bad : ints(-1, 1, 4, 5, MIN, MAX)) {
            SearchWire x = withSizes(1, 1);
            due("set " + bad, x.drop(0, bad), -104);
            dueState("the other set stays", x, 0, 1, 1, 104, 1);
            due("the other set stays", x.size(0, 0), 1);
        }
        SearchWire x = withSizes(1, 1);
        x.drop(0, 0);
        due("dropped twice", x.drop(0, 0), -104);
        x.session(3, 1);
        due("none was made", x.drop(1, 0), -104);
        x.search(1, 0, 0);
        due("without named sets", x.drop(1, 1), -104);
        dueState("set 0 stays", x, 1, 1, 2, 104, 1);
    }

    private static void closeTellsSets() {
        for (int sets = 0; sets <= 5; sets++) {
            SearchWire x = withSizes(1, 1);
            x.session(4, 1);
            for (int set = 0; set < sets; set++) {
                x.search(1, 0, 4 - set);
                x.search(1, 0, 4 - set);
            }
            due("of " + sets, x.close(1), sets);
            dueState("closed", x, 1, 2, 0, 0, 0);
            dueState("the other", x, 0, 1, 0, 0, 1);
        }
        SearchWire x = withSizes(1, 1);
        x.search(0, 1, 1);
        x.search(0, 0, 2);
        x.drop(0, 2);
        due("an empty one counts, a dropped one does not", x.close(0), 2);
        x.session(3, 1);
        x.search(1, 0, 0);
        x.search(1, 0, 0);
        due("without named sets", x.close(1), 1);
    }

    private static void closeOfNoSession() {
        SearchWire x = withSizes(1, 1);
        for (int bad : NOT_OPEN) {
            due("session " + bad, x.close(bad), -101);
            dueState("the open one", x, 0, 1, 0, 0, 1);
        }
        due("never opened", x.state(1, 0), 0);
        due("close", x.close(0), 1);
        due("closed twice", x.close(0), -101);
        dueState("not counted", x, 0, 2, 0, 0, 0);
    }

    private static void stateOfSession() {
        SearchWire x = new SearchWire();
        for (int s = 0; s < 8; s++) {
            due("never opened", x.state(s, 0), 0);
            x.session(0, 1);
            due("open", x.state(s, 0), 1);
        }
        for (int s = 0; s < 8; s++) {
            x.close(s);
            due("closed", x.state(s, 0), 2);
            due("the next", x.state(s + 1, 0), s == 7 ? -1 : 1);
        }
    }

    private static void diagnosticsCounted() {
        SearchWire x = withSizes(1, 1);
        x.session(7, 1);
        for (int k = 0; k < 3; k++) {
            due("before", x.state(0, 1), k);
            due("state does not count", x.state(0, 9), -1);
            x.present(0, 0, 0, 0);
        }
        due("three", x.state(0, 1), 3);
        x.present(0, 0, 0, 0);
        due("no fourth", x.state(0, 1), 3);
        due("the other session's", x.state(1, 1), 0);
    }

    private static void latestCode() {
        SearchWire x = withSizes(1, 1);
        due("none", x.state(0, 2), 0);
        x.search(0, 5, 0);
        due("the first", x.state(0, 2), 103);
        x.search(0, 0, 0);
        x.present(0, 0, 0, 1);
        x.size(0, 4);
        x.scan(7, 0, 0, 1, 0);
        due("it stays when a call succeeds", x.state(0, 2), 103);
        x.search(0, 1, 0);
        due("the second", x.state(0, 2), 108);
        x.sort(0, 0, 5, true);
        due("the third", x.state(0, 2), 106);
        x.search(0, 5, 0);
        due("101 is not told", x.state(0, 2), 106);
    }

    private static void setsCounted() {
        SearchWire x = withSizes(1, 1);
        for (int set = 4; set >= 1; set--) {
            x.search(0, 0, set);
            due("sets", x.state(0, 3), 6 - set);
        }
        x.search(0, 1, 4);
        due("an empty one counts", x.state(0, 3), 5);
        x.search(0, 0, 5);
        due("a refused one does not", x.state(0, 3), 5);
        x.drop(0, 2);
        due("a dropped one does not", x.state(0, 3), 4);
    }

    private static void neverOpened() {
        SearchWire x = withSizes(1, 1);
        for (int s = 1; s < 8; s++) {
            x.search(s, 0, 0);
            x.drop(s, 5);
            dueState("session " + s, x, s, 0, 0, 0, 0);
        }
    }

    private static void stateOfNoSession() {
        SearchWire x = withSizes(1, 1);
        for (int bad : ints(-1, 8, MIN, MAX)) {
            dueState("session " + bad, x, bad, -1, -1, -1, -1);
        }
        due("the last there is", x.state(7, 0), 0);
    }

    private static void stateOfAnotherWhat() {
        SearchWire x = withSizes(1, 1);
        x.session(0, 1);
        x.close(1);
        for (int bad : ints(-1, 4, MIN, MAX)) {
            due("open, what " + bad, x.state(0, bad), -1);
            due("closed, what " + bad, x.state(1, bad), -1);
            due("never opened, what " + bad, x.state(7, bad), -1);
            due("none such, what " + bad, x.state(8, bad), -1);
        }
    }
}
