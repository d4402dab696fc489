import java.util.ArrayList;
import java.util.Comparator;
import java.util.List;
import java.util.Random;
import java.util.TreeMap;

/** Long runs of calls on the class and on a plain model of the document, answer by answer. */
public final class ModelRuns {
    private static final int RUNS = 3000;
    private static final int CALLS = 512;
    private static final int THROWN = -999;
    private static final int[] STRANGE = {-2, -1, 5, 8, 40, 100, 1000, 1001, Integer.MIN_VALUE,
        Integer.MAX_VALUE};
    private static final String[] NAMES = {"record", "term", "question", "session", "search", "size",
        "present", "segment", "at", "sort", "scan", "scanned", "drop", "close", "state"};
    /** How many values each argument of each call is drawn from, from 0 on. */
    private static final int[][] SPANS = {{201}, {100, 5, 30}, {5, 40, 40, 40}, {8, 400}, {8, 40, 5},
        {8, 5}, {8, 5, 8, 12}, {8, 8, 4}, {8, 12}, {8, 5, 5, 2}, {8, 5, 30, 21, 10}, {8, 12, 2},
        {8, 5}, {8}, {8, 4}};
    private static final int[] WEIGHTS = {8, 16, 8, 2, 14, 4, 14, 8, 8, 12, 8, 8, 2, 1, 6};

    public static void main(String[] args) {
        int wrong = 0;
        for (int run = 0; run < RUNS && wrong < 5; run++) {
            wrong += compareRun(run) ? 0 : 1;
        }
        System.out.println(wrong == 0 ? "the class and the model agree" : "they differ");
        if (wrong != 0) {
            System.exit(1);
        }
    }

    private static boolean compareRun(int run) {
        Random random = new Random(run);
        SearchWire x = new SearchWire();
        Model m = new Model();
        for (int k = 0; k < CALLS; k++) {
            int call = k < 60 ? random.nextInt(4) : drawCall(random);
            int[] v = drawArguments(random, call, m, run % 3 == 0 ? 10 : 60);
            int got = ask(x, call, v);
            int want = m.ask(call, v);
            if (got != want) {
                System.out.println("run " + run + ", call " + k + ": " + NAMES[call]
                    + java.util.Arrays.toString(v) + " answered " + got + ", the model " + want);
                return false;
            }
        }
        return true;
    }

    private static int drawCall(Random random) {
        int sum = 0;
        for (int w : WEIGHTS) {
            sum += w;
        }
        int left = random.nextInt(sum);
        int call = 0;
        while (left >= WEIGHTS[call]) {
            left -= WEIGHTS[call];
            call++;
        }
        return call;
    }

    private static int[] drawArguments(Random random, int call, Model m, int strangeness) {
        int[] v = new int[5];
        for (int i = 0; i < SPANS[call].length; i++) {
            boolean strange = random.nextInt(strangeness) == 0;
            v[i] = strange ? STRANGE[random.nextInt(STRANGE.length)] : random.nextInt(SPANS[call][i]);
        }
        boolean aim = random.nextInt(strangeness) != 0;
        if (call == 1 && aim && !m.sizes.isEmpty()) {
            v[0] = random.nextInt(m.sizes.size());
        }
        if (call == 2 && aim) {
            v[0] = m.questions.size() < 6 ? random.nextInt(2) : random.nextInt(5);
            v[1] = random.nextInt(v[0] < 2 ? 5 : m.questions.size());
            v[2] = v[0] < 2 ? random.nextInt(20) : random.nextInt(m.questions.size());
            v[3] = v[2] + random.nextInt(20);
        }
        if (call == 4 && aim && !m.questions.isEmpty()) {
            v[1] = random.nextInt(m.questions.size());
        }
        if (call >= 4 && aim && !m.sessions.isEmpty()) {
            v[0] = random.nextInt(m.sessions.size());
            aimAtSet(random, call, m.sessions.get(v[0]), v);
        }
        return v;
    }

    /** Draws calls that can succeed, as three diagnostics end a session before much has happened. */
    private static void aimAtSet(Random random, int call, Model.Session s, int[] v) {
        if ((call == 6 || call == 9) && !s.sets.isEmpty()) {
            v[1] = new ArrayList<>(s.sets.keySet()).get(random.nextInt(s.sets.size()));
            int size = s.sets.get(v[1]).size();
            if (call == 6 && size > 0) {
                v[2] = random.nextInt(size);
                v[3] = 1 + random.nextInt(size - v[2]);
            }
        }
        if (call == 4 && (s.options & 4) == 0) {
            v[2] = 0;
        }
        if (call == 9 && (s.options & 1) == 0 || call == 10 && (s.options & 2) == 0) {
            v[0] = 0;
        }
    }

    private static int ask(SearchWire x, int call, int[] v) {
        switch (call) {
            case 0: return x.record(v[0]);
            case 1: return x.term(v[0], v[1], v[2]);
            case 2: return x.question(v[0], v[1], v[2], v[3]);
            case 3: return x.session(v[0], v[1]);
            case 4: return x.search(v[0], v[1], v[2]);
            case 5: return x.size(v[0], v[1]);
            case 6: return x.present(v[0], v[1], v[2], v[3]);
            case 7: return x.segment(v[0], v[1], v[2]);
            case 8: return x.at(v[0], v[1]);
            case 9: return x.sort(v[0], v[1], v[2], v[3] == 1);
            case 10: return x.scan(v[0], v[1], v[2], v[3], v[4]);
            case 11: return scannedOrThrown(x, v);
            case 12: return x.drop(v[0], v[1]);
            case 13: return x.close(v[0]);
            default: return x.state(v[0], v[1]);
        }
    }

    private static int scannedOrThrown(SearchWire x, int[] v) {
        try {
            return x.scanned(v[0], v[1], v[2]);
        } catch (ArrayIndexOutOfBoundsException e) {
            return THROWN;
        }
    }

    private static final class Model {
        static final class Session {
            int options;
            int limit;
            boolean open = true;
            List<Integer> codes = new ArrayList<>();
            TreeMap<Integer, List<Integer>> sets = new TreeMap<>();
            List<Integer> presented = List.of();
            List<int[]> segments = List.of();
            List<int[]> scanned = List.of();

            int fail(int code) {
                codes.add(code);
                if (codes.size() == 3) {
                    end();
                }
                return -code;
            }

            int end() {
                int had = sets.size();
                open = false;
                sets.clear();
                return had;
            }
        }

        final List<Integer> sizes = new ArrayList<>();
        final List<int[]> terms = new ArrayList<>();
        final List<int[]> questions = new ArrayList<>();
        final List<Session> sessions = new ArrayList<>();

        private static boolean in(int v, int low, int high) {
            return low <= v && v <= high;
        }

        int ask(int call, int[] v) {
            switch (call) {
                case 0: return record(v[0]);
                case 1: return term(v[0], v[1], v[2]);
                case 2: return question(v[0], v[1], v[2], v[3]);
                case 3: return session(v[0], v[1]);
                case 7: return in(v[0], 0, sessions.size() - 1) ? segment(sessions.get(v[0]), v[1], v[2]) : -1;
                case 8: return in(v[0], 0, sessions.size() - 1) ? at(sessions.get(v[0]), v[1]) : -1;
                case 11: return in(v[0], 0, sessions.size() - 1) ? scanned(sessions.get(v[0]), v[1], v[2]) : THROWN;
                case 14: return state(v[0], v[1]);
                default: break;
            }
            if (!in(v[0], 0, sessions.size() - 1) || !sessions.get(v[0]).open) {
                return -101;
            }
            Session s = sessions.get(v[0]);
            switch (call) {
                case 4: return search(s, v[1], v[2]);
                case 5: return s.sets.containsKey(v[1]) ? s.sets.get(v[1]).size() : -104;
                case 6: return present(s, v[1], v[2], v[3]);
                case 9: return sort(s, v[1], v[2], v[3] == 1);
                case 10: return scan(s, v[1], v[2], v[3], v[4]);
                case 12: return s.sets.remove(v[1]) != null ? 1 : s.fail(104);
                default: return s.end();
            }
        }

        int record(int size) {
            if (!in(size, 1, 200) || sizes.size() == 100) {
                return -1;
            }
            sizes.add(size);
            terms.add(new int[] {-1, -1, -1, -1, -1});
            return sizes.size() - 1;
        }

        int term(int record, int index, int v) {
            if (!in(record, 0, sizes.size() - 1) || !in(index, 0, 4) || !in(v, -1, 999)) {
                return -1;
            }
            terms.get(record)[index] = v;
            return 1;
        }

        int question(int kind, int a, int b, int c) {
            int last = questions.size() - 1;
            boolean can = kind == 0 && in(a, 0, 4) && in(b, 0, 999)
                || kind == 1 && in(a, 0, 4) && in(b, 0, 999) && in(c, b, 999)
                || in(kind, 2, 4) && in(a, 0, last) && in(b, 0, last);
            if (!can || questions.size() == 40) {
                return -1;
            }
            questions.add(new int[] {kind, a, b, c});
            return last + 1;
        }

        int session(int options, int limit) {
            if (!in(options, 0, 7) || !in(limit, 1, 1000) || sessions.size() == 8) {
                return -1;
            }
            Session s = new Session();
            s.options = options;
            s.limit = limit;
            sessions.add(s);
            return sessions.size() - 1;
        }

        /** All records that a question finds, worked out set by set. */
        List<Integer> found(int question) {
            List<List<Integer>> answers = new ArrayList<>();
            for (int[] q : questions.subList(0, question + 1)) {
                List<Integer> answer = new ArrayList<>();
                for (int r = 0; r < sizes.size(); r++) {
                    boolean yes;
                    if (q[0] < 2) {
                        yes = in(terms.get(r)[q[1]], q[2], q[0] == 0 ? q[2] : q[3]);
                    } else {
                        boolean left = answers.get(q[1]).contains(r);
                        boolean right = answers.get(q[2]).contains(r);
                        yes = q[0] == 2 ? left & right : q[0] == 3 ? left | right : left & !right;
                    }
                    if (yes) {
                        answer.add(r);
                    }
                }
                answers.add(answer);
            }
            return answers.get(question);
        }

        int search(Session s, int question, int set) {
            if (!in(question, 0, questions.size() - 1)) {
                return s.fail(103);
            }
            if (!in(set, 0, (s.options & 4) != 0 ? 4 : 0)) {
                return s.fail(104);
            }
            List<Integer> found = found(question);
            s.sets.put(set, found);
            return found.isEmpty() ? s.fail(108) : found.size();
        }

        int present(Session s, int set, int from, int n) {
            if (!s.sets.containsKey(set)) {
                return s.fail(104);
            }
            if (n < 1) {
                return s.fail(107);
            }
            if (from < 0 || (long) from + n > s.sets.get(set).size()) {
                return s.fail(105);
            }
            s.presented = new ArrayList<>(s.sets.get(set).subList(from, from + n));
            s.segments = new ArrayList<>();
            int place = 0;
            while (place < n) {
                int first = place;
                int bytes = sizes.get(s.presented.get(place++));
                while (place < n && bytes + sizes.get(s.presented.get(place)) <= s.limit) {
                    bytes += sizes.get(s.presented.get(place++));
                }
                s.segments.add(new int[] {first, place - first, bytes, bytes > s.limit ? 1 : 0});
            }
            return s.segments.size();
        }

        int segment(Session s, int i, int what) {
            return in(i, 0, s.segments.size() - 1) && in(what, 0, 3) ? s.segments.get(i)[what] : -1;
        }

        int at(Session s, int place) {
            return in(place, 0, s.presented.size() - 1) ? s.presented.get(place) : -1;
        }

        int sort(Session s, int set, int index, boolean down) {
            if ((s.options & 1) == 0) {
                return s.fail(102);
            }
            if (!s.sets.containsKey(set)) {
                return s.fail(104);
            }
            if (!in(index, 0, 4)) {
                return s.fail(106);
            }
            List<Integer> with = new ArrayList<>();
            List<Integer> without = new ArrayList<>();
            for (int r : s.sets.get(set)) {
                (terms.get(r)[index] >= 0 ? with : without).add(r);
            }
            Comparator<Integer> up = Comparator.comparingInt(r -> terms.get(r)[index]);
            with.sort(down ? up.reversed() : up);
            with.addAll(without);
            s.sets.put(set, with);
            return without.size();
        }

        int scan(Session s, int index, int term, int n, int place) {
            if ((s.options & 2) == 0) {
                return s.fail(102);
            }
            if (!in(index, 0, 4)) {
                return s.fail(106);
            }
            if (!in(term, 0, 999) || !in(n, 1, 20) || !in(place, 0, 9)) {
                return s.fail(107);
            }
            TreeMap<Integer, Integer> counts = new TreeMap<>();
            for (int[] row : terms) {
                if (row[index] >= 0) {
                    counts.merge(row[index], 1, Integer::sum);
                }
            }
            if (counts.isEmpty()) {
                return s.fail(108);
            }
            List<Integer> all = new ArrayList<>(counts.keySet());
            int start = Math.max(0, counts.headMap(term).size() - place);
            s.scanned = new ArrayList<>();
            for (int t : all.subList(start, Math.min(all.size(), start + n))) {
                s.scanned.add(new int[] {t, counts.get(t)});
            }
            return s.scanned.size();
        }

        int scanned(Session s, int i, int what) {
            if (!in(i, 0, s.scanned.size() - 1)) {
                return THROWN;
            }
            return in(what, 0, 1) ? s.scanned.get(i)[what] : -1;
        }

        int state(int session, int what) {
            if (!in(session, 0, 7) || !in(what, 0, 3)) {
                return -1;
            }
            if (session >= sessions.size()) {
                return 0;
            }
            Session s = sessions.get(session);
            int latest = s.codes.isEmpty() ? 0 : s.codes.get(s.codes.size() - 1);
            return new int[] {s.open ? 1 : 2, s.codes.size(), latest, s.sets.size()}[what];
        }
    }
}
