/**
 * A search protocol: sessions with options, result sets that are named and kept, presented by
 * ranges in segments, sorted by keys, terms of indexes scanned, diagnostics by code, states told.
 */
public final class SearchWire {
    /** None such. */
    public static final int NONE = -1;

    private static final int SESSION_NOT_OPEN = 101;
    private static final int OPTION_NOT_GIVEN = 102;
    private static final int NO_SUCH_QUESTION = 103;
    private static final int NO_SUCH_SET = 104;
    private static final int OUT_OF_SET = 105;
    private static final int NO_SUCH_INDEX = 106;
    private static final int IMPOSSIBLE_NUMBER = 107;
    private static final int NOTHING_FOUND = 108;

    private static final int MAY_SORT = 1;
    private static final int MAY_SCAN = 2;
    private static final int NAMED_SETS = 4;
    private static final int ALL_OPTIONS = 7;

    private static final int TERM_QUESTION = 0;
    private static final int RANGE_QUESTION = 1;
    private static final int AND_QUESTION = 2;
    private static final int OR_QUESTION = 3;
    private static final int BUT_NOT_QUESTION = 4;

    private static final int RECORD_ROOM = 100;
    private static final int INDEX_ROOM = 5;
    private static final int QUESTION_ROOM = 40;
    private static final int SESSION_ROOM = 8;
    private static final int NAME_ROOM = 5;
    private static final int HIGHEST_TERM = 999;
    private static final int LARGEST_RECORD = 200;
    private static final int LARGEST_LIMIT = 1000;
    private static final int LONGEST_SCAN = 20;
    private static final int LAST_PLACE = 9;
    private static final int FATAL_DIAGNOSTICS = 3;

    private final Records records;
    private final Questions questions;
    private final Session[] sessions;
    private int sessionCount;

    public SearchWire() {
        records = new Records();
        questions = new Questions();
        sessions = new Session[SESSION_ROOM];
        sessionCount = 0;
    }

    public int record(int size) {
        return records.add(size);
    }

    public int term(int record, int index, int v) {
        return records.putTerm(record, index, v) ? 1 : NONE;
    }

    public int question(int kind, int a, int b, int c) {
        if (kind == TERM_QUESTION) {
            return questions.addRange(a, b, b);
        }
        if (kind == RANGE_QUESTION) {
            return questions.addRange(a, b, c);
        }
        return questions.addPair(kind, a, b);
    }

    public int session(int options, int limit) {
        if (options < 0 || options > ALL_OPTIONS || limit < 1 || limit > LARGEST_LIMIT) {
            return NONE;
        }
        if (sessionCount >= SESSION_ROOM) {
            return NONE;
        }
        sessions[sessionCount] = new Session(options, limit);
        sessionCount++;
        return sessionCount - 1;
    }

    public int search(int session, int question, int set) {
        Session s = openSession(session);
        if (s == null) {
            return -SESSION_NOT_OPEN;
        }
        if (!questions.has(question)) {
            return s.diagnose(NO_SUCH_QUESTION);
        }
        ResultSet target = s.setOfName(set);
        if (target == null) {
            return s.diagnose(NO_SUCH_SET);
        }
        target.make();
        for (int r = 0; r < records.count(); r++) {
            if (questions.finds(question, records, r)) {
                target.add(r);
            }
        }
        return target.count() == 0 ? s.diagnose(NOTHING_FOUND) : target.count();
    }

    public int size(int session, int set) {
        Session s = openSession(session);
        if (s == null) {
            return -SESSION_NOT_OPEN;
        }
        ResultSet asked = s.madeSet(set);
        return asked == null ? -NO_SUCH_SET : asked.count();
    }

    public int present(int session, int set, int from, int n) {
        Session s = openSession(session);
        if (s == null) {
            return -SESSION_NOT_OPEN;
        }
        ResultSet asked = s.madeSet(set);
        if (asked == null) {
            return s.diagnose(NO_SUCH_SET);
        }
        if (n < 1) {
            return s.diagnose(IMPOSSIBLE_NUMBER);
        }
        // the end is compared by a difference, as from + n could wrap around
        if (from < 0 || from > asked.count() - n) {
            return s.diagnose(OUT_OF_SET);
        }
        Presented row = s.presented();
        row.clear();
        for (int k = 0; k < n; k++) {
            int r = asked.recordAt(from + k);
            row.add(r, records.bytesOf(r));
        }
        return row.segmentCount();
    }

    public int segment(int session, int i, int what) {
        Session s = everOpened(session);
        return s == null ? NONE : s.presented().tellSegment(i, what);
    }

    public int at(int session, int place) {
        Session s = everOpened(session);
        return s == null ? NONE : s.presented().recordAt(place);
    }

    public int sort(int session, int set, int index, boolean down) {
        Session s = openSession(session);
        if (s == null) {
            return -SESSION_NOT_OPEN;
        }
        if (!s.may(MAY_SORT)) {
            return s.diagnose(OPTION_NOT_GIVEN);
        }
        ResultSet asked = s.madeSet(set);
        if (asked == null) {
            return s.diagnose(NO_SUCH_SET);
        }
        if (!isIndex(index)) {
            return s.diagnose(NO_SUCH_INDEX);
        }
        asked.putInOrder(records, index, down);
        return asked.countWithoutTerm(records, index);
    }

    public int scan(int session, int index, int term, int n, int place) {
        Session s = openSession(session);
        if (s == null) {
            return -SESSION_NOT_OPEN;
        }
        if (!s.may(MAY_SCAN)) {
            return s.diagnose(OPTION_NOT_GIVEN);
        }
        if (!isIndex(index)) {
            return s.diagnose(NO_SUCH_INDEX);
        }
        if (!isTerm(term) || n < 1 || n > LONGEST_SCAN || place < 0 || place > LAST_PLACE) {
            return s.diagnose(IMPOSSIBLE_NUMBER);
        }
        if (records.leastTermFrom(index, 0) == NONE) {
            return s.diagnose(NOTHING_FOUND);
        }
        return s.scannedTerms().fill(records, index, stepBack(index, term, place), n);
    }

    public int scanned(int session, int i, int what) throws ArrayIndexOutOfBoundsException {
        Session s = everOpened(session);
        if (s == null || !s.scannedTerms().has(i)) {
            throw new ArrayIndexOutOfBoundsException("no such term was scanned");
        }
        return s.scannedTerms().tell(i, what);
    }

    public int drop(int session, int set) {
        Session s = openSession(session);
        if (s == null) {
            return -SESSION_NOT_OPEN;
        }
        ResultSet asked = s.madeSet(set);
        if (asked == null) {
            return s.diagnose(NO_SUCH_SET);
        }
        asked.forget();
        return 1;
    }

    public int close(int session) {
        Session s = openSession(session);
        if (s == null) {
            return -SESSION_NOT_OPEN;
        }
        int had = s.setCount();
        s.shut();
        return had;
    }

    public int state(int session, int what) {
        if (session < 0 || session >= SESSION_ROOM || what < 0 || what > 3) {
            return NONE;
        }
        Session s = everOpened(session);
        return s == null ? 0 : s.tell(what);
    }

    private Session everOpened(int session) {
        return session >= 0 && session < sessionCount ? sessions[session] : null;
    }

    private Session openSession(int session) {
        Session s = everOpened(session);
        return s != null && s.isOpen() ? s : null;
    }

    /** The term that stands some places before the one asked for, or the first if there are fewer. */
    private int stepBack(int index, int term, int places) {
        int start = term;
        for (int k = 0; k < places; k++) {
            int before = records.greatestTermBelow(index, start);
            if (before == NONE) {
                return start;
            }
            start = before;
        }
        return start;
    }

    private static boolean isIndex(int index) {
        return index >= 0 && index < INDEX_ROOM;
    }

    private static boolean isTerm(int term) {
        return term >= 0 && term <= HIGHEST_TERM;
    }

    /** The records, each with its size and its terms; a term that is not there is held as NONE. */
    private static final class Records {
        private final int[] bytes = new int[RECORD_ROOM];
        private final int[][] terms = new int[INDEX_ROOM][RECORD_ROOM];
        private int count = 0;

        int count() {
            return count;
        }

        int add(int size) {
            if (size < 1 || size > LARGEST_RECORD || count >= RECORD_ROOM) {
                return NONE;
            }
            bytes[count] = size;
            for (int index = 0; index < INDEX_ROOM; index++) {
                terms[index][count] = NONE;
            }
            count++;
            return count - 1;
        }

        boolean has(int record) {
            return record >= 0 && record < count;
        }

        boolean putTerm(int record, int index, int term) {
            if (!has(record) || !isIndex(index) || (term != NONE && !isTerm(term))) {
                return false;
            }
            terms[index][record] = term;
            return true;
        }

        int bytesOf(int record) {
            return has(record) ? bytes[record] : 0;
        }

        int termOf(int record, int index) {
            return has(record) && isIndex(index) ? terms[index][record] : NONE;
        }

        int leastTermFrom(int index, int low) {
            int least = NONE;
            for (int r = 0; r < count; r++) {
                int term = termOf(r, index);
                if (term >= low && (least == NONE || term < least)) {
                    least = term;
                }
            }
            return least;
        }

        int greatestTermBelow(int index, int high) {
            int greatest = NONE;
            for (int r = 0; r < count; r++) {
                int term = termOf(r, index);
                if (term < high && term > greatest) {
                    greatest = term;
                }
            }
            return greatest;
        }

        int countOfTerm(int index, int term) {
            int having = 0;
            for (int r = 0; r < count; r++) {
                if (termOf(r, index) == term) {
                    having++;
                }
            }
            return having;
        }
    }

    /** The questions; one for a single term is held as the range from that term to itself. */
    private static final class Questions {
        private final int[] kinds = new int[QUESTION_ROOM];
        private final int[] firsts = new int[QUESTION_ROOM];
        private final int[] seconds = new int[QUESTION_ROOM];
        private final int[] thirds = new int[QUESTION_ROOM];
        private int count = 0;

        boolean has(int question) {
            return question >= 0 && question < count;
        }

        int addRange(int index, int from, int to) {
            if (!isIndex(index) || !isTerm(from) || !isTerm(to) || from > to) {
                return NONE;
            }
            return add(RANGE_QUESTION, index, from, to);
        }

        int addPair(int kind, int left, int right) {
            if (kind < AND_QUESTION || kind > BUT_NOT_QUESTION || !has(left) || !has(right)) {
                return NONE;
            }
            return add(kind, left, right, 0);
        }

        private int add(int kind, int first, int second, int third) {
            if (count >= QUESTION_ROOM) {
                return NONE;
            }
            kinds[count] = kind;
            firsts[count] = first;
            seconds[count] = second;
            thirds[count] = third;
            count++;
            return count - 1;
        }

        /**
         * Questions name only earlier ones, so one pass answers all of them, a bit each: to follow
         * the names down instead could take 2 to the 39th steps.
         */
        boolean finds(int question, Records records, int record) {
            if (!has(question)) {
                return false;
            }
            long yes = 0;
            for (int q = 0; q <= question; q++) {
                if (holds(q, records, record, yes)) {
                    yes |= 1L << q;
                }
            }
            return isYes(yes, question);
        }

        private boolean holds(int q, Records records, int record, long yes) {
            int first = firsts[q];
            int second = seconds[q];
            switch (kinds[q]) {
                case AND_QUESTION:
                    return isYes(yes, first) && isYes(yes, second);
                case OR_QUESTION:
                    return isYes(yes, first) || isYes(yes, second);
                case BUT_NOT_QUESTION:
                    return isYes(yes, first) && !isYes(yes, second);
                default:
                    int term = records.termOf(record, first);
                    return term >= second && term <= thirds[q];
            }
        }

        private static boolean isYes(long yes, int question) {
            return (yes >> question & 1L) != 0;
        }
    }

    /** A row of records under a name, which is there only between make and forget. */
    private static final class ResultSet {
        private final int[] row = new int[RECORD_ROOM];
        private int count = 0;
        private boolean made = false;

        void make() {
            made = true;
            count = 0;
        }

        void forget() {
            made = false;
            count = 0;
        }

        boolean isMade() {
            return made;
        }

        int count() {
            return count;
        }

        void add(int record) {
            if (count < RECORD_ROOM) {
                row[count] = record;
                count++;
            }
        }

        int recordAt(int place) {
            return place >= 0 && place < count ? row[place] : NONE;
        }

        /** By insertion, as that leaves records of the same key as they stood. */
        void putInOrder(Records records, int index, boolean down) {
            for (int i = 1; i < count; i++) {
                int moved = row[i];
                int key = keyOf(records.termOf(moved, index), down);
                int hole = i;
                while (hole > 0 && keyOf(records.termOf(row[hole - 1], index), down) > key) {
                    row[hole] = row[hole - 1];
                    hole--;
                }
                row[hole] = moved;
            }
        }

        private static int keyOf(int term, boolean down) {
            if (term == NONE) {
                return HIGHEST_TERM + 1;
            }
            return down ? HIGHEST_TERM - term : term;
        }

        int countWithoutTerm(Records records, int index) {
            int without = 0;
            for (int i = 0; i < count; i++) {
                if (records.termOf(row[i], index) == NONE) {
                    without++;
                }
            }
            return without;
        }
    }

    /** What a session was presented latest: a copy, so that it outlives its set. */
    private static final class Presented {
        private final int limit;
        private final int[] row = new int[RECORD_ROOM];
        private final int[] starts = new int[RECORD_ROOM];
        private final int[] bytes = new int[RECORD_ROOM];
        private int count = 0;
        private int segmentCount = 0;

        Presented(int limit) {
            this.limit = limit;
        }

        void clear() {
            count = 0;
            segmentCount = 0;
        }

        int segmentCount() {
            return segmentCount;
        }

        void add(int record, int size) {
            if (count >= RECORD_ROOM) {
                return;
            }
            if (segmentCount == 0 || bytes[segmentCount - 1] + size > limit) {
                starts[segmentCount] = count;
                bytes[segmentCount] = 0;
                segmentCount++;
            }
            bytes[segmentCount - 1] += size;
            row[count] = record;
            count++;
        }

        int recordAt(int place) {
            return place >= 0 && place < count ? row[place] : NONE;
        }

        int tellSegment(int i, int what) {
            if (i < 0 || i >= segmentCount) {
                return NONE;
            }
            switch (what) {
                case 0:
                    return starts[i];
                case 1:
                    return endOfSegment(i) - starts[i];
                case 2:
                    return bytes[i];
                case 3:
                    // only a record that stands alone can bring a segment above the limit
                    return bytes[i] > limit ? 1 : 0;
                default:
                    return NONE;
            }
        }

        private int endOfSegment(int i) {
            return i + 1 < segmentCount ? starts[i + 1] : count;
        }
    }

    /** What a session scanned latest, with the counts of that time. */
    private static final class ScannedTerms {
        private final int[] terms = new int[LONGEST_SCAN];
        private final int[] havers = new int[LONGEST_SCAN];
        private int count = 0;

        int fill(Records records, int index, int start, int most) {
            count = 0;
            int next = records.leastTermFrom(index, start);
            while (count < most && count < LONGEST_SCAN && next != NONE) {
                terms[count] = next;
                havers[count] = records.countOfTerm(index, next);
                count++;
                next = records.leastTermFrom(index, next + 1);
            }
            return count;
        }

        boolean has(int i) {
            return i >= 0 && i < count;
        }

        int tell(int i, int what) {
            if (!has(i)) {
                return NONE;
            }
            switch (what) {
                case 0:
                    return terms[i];
                case 1:
                    return havers[i];
                default:
                    return NONE;
            }
        }
    }

    /** A session that was opened: its options, its sets, its diagnostics and its latest rows. */
    private static final class Session {
        private final int options;
        private final ResultSet[] sets;
        private final Presented presented;
        private final ScannedTerms scannedTerms;
        private boolean open = true;
        private int diagnostics = 0;
        private int latestCode = 0;

        Session(int options, int limit) {
            this.options = options;
            sets = new ResultSet[(options & NAMED_SETS) != 0 ? NAME_ROOM : 1];
            for (int name = 0; name < sets.length; name++) {
                sets[name] = new ResultSet();
            }
            presented = new Presented(limit);
            scannedTerms = new ScannedTerms();
        }

        boolean isOpen() {
            return open;
        }

        boolean may(int option) {
            return (options & option) != 0;
        }

        Presented presented() {
            return presented;
        }

        ScannedTerms scannedTerms() {
            return scannedTerms;
        }

        /** The set that bears a name, be it made or not; null if there is no such name. */
        ResultSet setOfName(int name) {
            return name >= 0 && name < sets.length ? sets[name] : null;
        }

        ResultSet madeSet(int name) {
            ResultSet set = setOfName(name);
            return set != null && set.isMade() ? set : null;
        }

        int setCount() {
            int made = 0;
            for (int name = 0; name < sets.length; name++) {
                if (sets[name].isMade()) {
                    made++;
                }
            }
            return made;
        }

        /** Counts a diagnostic and gives the answer that tells it. */
        int diagnose(int code) {
            diagnostics++;
            latestCode = code;
            if (diagnostics >= FATAL_DIAGNOSTICS) {
                shut();
            }
            return -code;
        }

        void shut() {
            open = false;
            for (int name = 0; name < sets.length; name++) {
                sets[name].forget();
            }
        }

        int tell(int what) {
            switch (what) {
                case 0:
                    return open ? 1 : 2;
                case 1:
                    return diagnostics;
                case 2:
                    return latestCode;
                case 3:
                    return setCount();
                default:
                    return NONE;
            }
        }
    }
}
