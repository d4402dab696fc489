/** The sentences about searches and the sets they make: promises 6 and 7. */
public final class SearchTests extends Sentences {
    private static final int[] NOT_OPEN = {-1, 1, 7, 8, MIN, MAX};

    public static void main(String[] args) {
        sentence(6, "into a set of a name", SearchTests::names);
        sentence(6, "without named sets: 0 is the only name", SearchTests::onlyName);
        sentence(0, "each search puts its set in place of the one before", SearchTests::inPlace);
        sentence(0, "RESULT SETS of a session", SearchTests::setsOfASession);
        sentence(6, "how many records", SearchTests::howMany);
        sentence(0, "as the question found them when it was asked", SearchTests::asFound);
        sentence(0, "by numbers", SearchTests::byNumbers);
        sentence(0, "two questions that came before", SearchTests::chainOfQuestions);
        sentence(6, "101", SearchTests::searchInNoSession);
        sentence(6, "103", SearchTests::searchOfNoQuestion);
        sentence(6, "104 (no such name)", SearchTests::searchIntoNoName);
        sentence(6, "108 if there are none", SearchTests::nothingFound);
        sentence(6, "the set is empty then all the same", SearchTests::emptyAllTheSame);
        sentence(7, "How many records a set has", SearchTests::sizes);
        sentence(7, "101", SearchTests::sizeInNoSession);
        sentence(7, "104 as told", SearchTests::sizeOfNoSet);
        sentence(7, "they do not count as DIAGNOSTICS here", SearchTests::sizeDoesNotCount);
        finish();
    }

    private static void names() {
        SearchWire x = withTerms(0, 1, 2, 3, 4);
        x.session(4, 1);
        for (int set = 0; set < 5; set++) {
            x.question(1, 0, set, 4);
            due("set " + set, x.search(0, set, set), 5 - set);
        }
        dueSet("set 0", x, 0, 0, 0, 1, 2, 3, 4);
        dueSet("set 1", x, 0, 1, 1, 2, 3, 4);
        dueSet("set 2", x, 0, 2, 2, 3, 4);
        dueSet("set 3", x, 0, 3, 3, 4);
        dueSet("set 4", x, 0, 4, 4);
        due("in place of its own name", x.search(0, 4, 0), 1);
        dueSet("set 0", x, 0, 0, 4);
        dueSet("the others stay", x, 0, 3, 3, 4);
    }

    private static void onlyName() {
        for (int options = 0; options < 4; options++) {
            for (int bad : ints(-1, 1, 4, 5, MIN, MAX)) {
                SearchWire x = withSizes(1, 1);
                x.session(options, 1);
                due("set 0", x.search(1, 0, 0), 1);
                due("set " + bad, x.search(1, 0, bad), -104);
                dueState("set 0 stays", x, 1, 1, 1, 104, 1);
                dueSet("set 0 stays", x, 1, 0, 0);
                due("size of " + bad, x.size(1, bad), -104);
                due("present of " + bad, x.present(1, bad, 0, 1), -104);
            }
        }
    }

    private static void inPlace() {
        SearchWire x = withTerms(1, 2, 2);
        x.question(0, 0, 1, 0);
        x.question(0, 0, 2, 0);
        x.session(3, 1000);
        due("first", x.search(0, 1, 0), 2);
        dueSet("first", x, 0, 0, 1, 2);
        due("second", x.search(0, 0, 0), 1);
        dueSet("second", x, 0, 0, 0);
        due("one set", x.state(0, 3), 1);
    }

    private static void setsOfASession() {
        SearchWire x = withTerms(1, 2);
        x.question(0, 0, 1, 0);
        x.question(0, 0, 2, 0);
        x.session(4, 1);
        x.session(4, 1);
        x.search(0, 0, 2);
        due("not another's", x.size(1, 2), -104);
        x.search(1, 1, 2);
        dueSet("the first's", x, 0, 2, 0);
        dueSet("the second's", x, 1, 2, 1);
    }

    private static void howMany() {
        SearchWire x = new SearchWire();
        for (int r = 0; r < 100; r++) {
            x.record(1);
            x.term(r, 0, r);
        }
        x.question(1, 0, 0, 99);
        x.question(1, 0, 99, 999);
        x.question(1, 0, 0, 98);
        x.session(0, 1);
        due("all of 100", x.search(0, 0, 0), 100);
        due("its size", x.size(0, 0), 100);
        due("the last is there", x.present(0, 0, 99, 1), 1);
        due("the last is 99", x.at(0, 0), 99);
        due("one", x.search(0, 1, 0), 1);
        due("all but one", x.search(0, 2, 0), 99);
    }

    private static void asFound() {
        SearchWire x = withTerms(1, 2, 1);
        x.question(0, 0, 1, 0);
        x.session(4, 1);
        x.search(0, 0, 0);
        x.term(0, 0, 2);
        x.term(1, 0, 1);
        x.record(1);
        x.term(3, 0, 1);
        dueSet("as it was", x, 0, 0, 0, 2);
        due("asked again", x.search(0, 0, 1), 3);
        dueSet("asked again", x, 0, 1, 1, 2, 3);
        dueSet("the first stays", x, 0, 0, 0, 2);
    }

    private static void byNumbers() {
        SearchWire x = withTerms(9, 5, 7, 1, 3);
        x.question(1, 0, 5, 9);
        x.question(1, 0, 0, 4);
        x.question(3, 1, 0, 0);
        x.session(5, 1);
        x.search(0, 2, 0);
        dueSet("found", x, 0, 0, 0, 1, 2, 3, 4);
        x.sort(0, 0, 0, false);
        dueSet("sorted since", x, 0, 0, 3, 4, 1, 2, 0);
        x.search(0, 2, 0);
        dueSet("asked again", x, 0, 0, 0, 1, 2, 3, 4);
    }

    /** Each question names the one before it twice: to follow each name would not end in time. */
    private static void chainOfQuestions() {
        SearchWire x = new SearchWire();
        for (int r = 0; r < 100; r++) {
            x.record(200);
            x.term(r, 0, r);
        }
        x.question(1, 0, 1, 999);
        for (int q = 1; q < 40; q++) {
            x.question(2 + q % 2, q - 1, q - 1, 0);
        }
        x.session(0, 1000);
        due("the last question", x.search(0, 39, 0), 99);
        due("segments", x.present(0, 0, 0, 99), 20);
        due("last", x.at(0, 98), 99);
    }

    private static void searchInNoSession() {
        SearchWire x = withSizes(1, 1);
        for (int bad : NOT_OPEN) {
            due("session " + bad, x.search(bad, 0, 0), -101);
            due("101 before 103", x.search(bad, -1, 9), -101);
        }
        dueState("the open one", x, 0, 1, 0, 0, 1);
        x.close(0);
        due("closed", x.search(0, 0, 0), -101);
        dueState("it stays closed", x, 0, 2, 0, 0, 0);
    }

    private static void searchOfNoQuestion() {
        for (int bad : ints(-1, 2, 39, 40, MIN, MAX)) {
            SearchWire x = withSizes(1, 1);
            due("question " + bad, x.search(0, bad, 0), -103);
            dueState("the set stays", x, 0, 1, 1, 103, 1);
            dueSet("the set stays", x, 0, 0, 0);
            due("103 before 104", x.search(0, bad, 5), -103);
            due("no set was made", x.state(0, 3), 1);
        }
        SearchWire x = withSizes(1, 1);
        for (int q = 2; q < 40; q++) {
            x.question(0, 0, 1, 0);
        }
        due("question 39", x.search(0, 39, 1), 1);
        due("question 40", x.search(0, 40, 2), -103);
        due("no set was made", x.size(0, 2), -104);
    }

    private static void searchIntoNoName() {
        for (int bad : ints(-1, 5, MIN, MAX)) {
            SearchWire x = withSizes(1, 1);
            due("set " + bad, x.search(0, 0, bad), -104);
            dueState("the others stay", x, 0, 1, 1, 104, 1);
            due("104 before 108", x.search(0, 1, bad), -104);
            dueSet("set 0 stays", x, 0, 0, 0);
        }
    }

    private static void nothingFound() {
        SearchWire x = withSizes(1, 1);
        due("none", x.search(0, 1, 1), -108);
        dueState("counted", x, 0, 1, 1, 108, 2);
        x.term(0, 0, 2);
        due("one", x.search(0, 1, 1), 1);
        dueState("not counted", x, 0, 1, 1, 108, 2);
    }

    private static void emptyAllTheSame() {
        SearchWire x = withSizes(1, 1);
        due("over another", x.search(0, 1, 0), -108);
        due("size", x.size(0, 0), 0);
        due("new", x.search(0, 1, 4), -108);
        due("size", x.size(0, 4), 0);
        due("sets", x.state(0, 3), 2);
        due("sorted", x.sort(0, 4, 0, true), 0);
        due("dropped", x.drop(0, 4), 1);
        SearchWire y = withSizes(1, 1);
        y.session(0, 1);
        y.search(1, 0, 0);
        due("without named sets", y.search(1, 1, 0), -108);
        due("size", y.size(1, 0), 0);
        due("nothing to present", y.present(1, 0, 0, 1), -105);
        due("the third", y.search(1, 1, 0), -108);
        dueState("a closed one has no sets", y, 1, 2, 3, 108, 0);
    }

    private static void sizes() {
        SearchWire x = withTerms(1, 2, 2);
        x.session(4, 1);
        x.question(0, 0, 3, 0);
        x.question(0, 0, 1, 0);
        x.question(0, 0, 2, 0);
        for (int q = 0; q < 3; q++) {
            x.search(0, q, q + 2);
            due("size", x.size(0, q + 2), q);
        }
        x.record(1);
        x.term(3, 0, 2);
        due("as it was asked", x.size(0, 4), 2);
        due("full", withSizes(1, manySizes(100, 1)).size(0, 0), 100);
    }

    private static void sizeInNoSession() {
        SearchWire x = withSizes(1, 1);
        for (int bad : NOT_OPEN) {
            due("session " + bad, x.size(bad, 0), -101);
            due("101 before 104", x.size(bad, 5), -101);
        }
        x.close(0);
        due("closed", x.size(0, 0), -101);
    }

    private static void sizeOfNoSet() {
        SearchWire x = withSizes(1, 1);
        for (int bad : ints(-1, 1, 4, 5, MIN, MAX)) {
            due("set " + bad, x.size(0, bad), -104);
        }
        due("the other", x.size(0, 0), 1);
        x.session(0, 1);
        due("none was made", x.size(1, 0), -104);
    }

    private static void sizeDoesNotCount() {
        SearchWire x = withSizes(1, 1);
        for (int k = 0; k < 4; k++) {
            due("104", x.size(0, 4), -104);
            due("101", x.size(1, 0), -101);
        }
        dueState("none", x, 0, 1, 0, 0, 1);
        x.present(0, 0, 0, 0);
        x.present(0, 0, 0, 0);
        due("104", x.size(0, 4), -104);
        dueState("no third", x, 0, 1, 2, 107, 1);
    }
}
