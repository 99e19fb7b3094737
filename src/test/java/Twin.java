import java.util.ArrayList;
import java.util.Arrays;
import java.util.HashMap;
import java.util.List;
import java.util.Map;

/**
 * The document a second time, written for plainness and with the whole library at hand: trees for the
 * texts, a graph over all 105 ends of weeks for the spans, and no rows that are kept between calls
 * but for one table by worker, time and number of facts.
 */
final class Twin {
    private static final String[] KINDS = {"base", "overtime", "sales", "travel", "bonus"};
    private static final String[] NUMBERS = {"weeks", "back", "days", "chain", "late", "stop", "interest"};
    private static final int[] LEAST = {1, 1, 1, 1, 0, 0, 0};
    private static final int[] MOST = {52, 104, 7, 999, 999, 9999, 999};

    interface Node {
        int of(View view, int week);
    }

    static final class View {
        int place;
        int term;
        int[][] paid;
    }

    static final class Wrong extends RuntimeException {
        final int kind;
        final int place;

        Wrong(int kind, int place) {
            super(null, null, false, false);
            this.kind = kind;
            this.place = place;
        }
    }

    record Token(String text, int place, int kind) {
    }

    record Line(int kind, int percent, Node when) {
    }

    static final class Law {
        final List<Line> counts = new ArrayList<>();
        Node empty = null;
        int[] numbers = {12, 104, 5, 90, 90, 9999, 0};
        int lines = 0;
    }

    record Worker(int place, boolean term) {
    }

    static final class Fact {
        String sort;
        int worker;
        int a;
        int b;
        int c;
        int told;
        int untold = Integer.MAX_VALUE;
        boolean gone = false;
    }

    static final class Known {
        int quarrel;
        int[][] low;
        int[][] high;
    }

    final StringBuilder tape = new StringBuilder();
    final Law[] shelves = {new Law(), new Law(), new Law(), new Law()};
    final List<Worker> workers = new ArrayList<>();
    final List<Fact> facts = new ArrayList<>();
    int time = 0;
    int fault = 0;
    int faultPlace = -1;
    int changes = 0;
    final Map<String, Known> table = new HashMap<>();

    // ---- texts

    int feed(int... five) {
        if (tape.length() + 20 > 900) {
            return -1;
        }
        for (int number : five) {
            for (int i = 3; i >= 0; i--) {
                tape.append((char) (number >>> 8 * i & 255));
            }
        }
        return tape.length();
    }

    int end(int n) {
        if (n < 0 || n > tape.length()) {
            return -1;
        }
        tape.setLength(n);
        return n;
    }

    int act(int shelf) {
        if (shelf < 0 || shelf > 3) {
            return -2;
        }
        String text = tape.toString();
        tape.setLength(0);
        fault = 0;
        faultPlace = -1;
        try {
            Law law = new Parser(text).law();
            shelves[shelf] = law;
            return law.lines;
        } catch (Wrong wrong) {
            fault = wrong.kind;
            faultPlace = wrong.place;
            return -1;
        }
    }

    int fault(int what) {
        return what == 0 ? fault : what == 1 ? faultPlace : -1;
    }

    /** Token kinds: 0 word, 1 number, 2 sign, 3 end. */
    static final class Parser {
        final String text;
        int at = 0;
        Token now;
        int units = 0;

        Parser(String text) {
            this.text = text;
            now = scan();
        }

        static boolean letter(char c) {
            return "abcdefghijklmnopqrstuvwxyz".indexOf(c) >= 0;
        }

        static boolean digit(char c) {
            return "0123456789".indexOf(c) >= 0;
        }

        Token scan() {
            while (at < text.length() && (text.charAt(at) == ' ' || text.charAt(at) == '\n')) {
                at++;
            }
            int from = at;
            if (from == text.length()) {
                return new Token("", from, 3);
            }
            char c = text.charAt(from);
            if (letter(c)) {
                while (at < text.length() && letter(text.charAt(at))) {
                    at++;
                }
                if (at - from > 8) {
                    throw new Wrong(1, from);
                }
                return new Token(text.substring(from, at), from, 0);
            }
            if (digit(c)) {
                while (at < text.length() && digit(text.charAt(at))) {
                    at++;
                }
                if (at - from > 4 || at < text.length() && letter(text.charAt(at))) {
                    throw new Wrong(1, from);
                }
                return new Token(text.substring(from, at), from, 1);
            }
            at++;
            if (";()<>=+-*/".indexOf(c) < 0) {
                throw new Wrong(1, from);
            }
            return new Token(String.valueOf(c), from, 2);
        }

        Wrong misplaced() {
            return new Wrong(2, now.place);
        }

        boolean is(String wanted) {
            return now.kind != 3 && now.text.equals(wanted);
        }

        void take(String wanted) {
            if (!is(wanted)) {
                throw misplaced();
            }
            now = scan();
        }

        int number(int least, int most) {
            if (now.kind != 1) {
                throw misplaced();
            }
            int number = Integer.parseInt(now.text);
            if (number < least || number > most) {
                throw new Wrong(4, now.place);
            }
            now = scan();
            return number;
        }

        int kind() {
            int kind = now.kind == 0 ? Arrays.asList(KINDS).indexOf(now.text) : -1;
            if (kind < 0) {
                throw misplaced();
            }
            now = scan();
            return kind;
        }

        Law law() {
            Law law = new Law();
            List<String> seen = new ArrayList<>();
            while (now.kind != 3) {
                String word = now.text;
                int number = Arrays.asList(NUMBERS).indexOf(word);
                if (is("counts")) {
                    if (law.counts.size() == 10) {
                        throw misplaced();
                    }
                    now = scan();
                    int kind = kind();
                    int percent = number(0, 100);
                    law.counts.add(new Line(kind, percent, when()));
                } else if ((is("empty") || number >= 0) && !seen.contains(word)) {
                    seen.add(word);
                    now = scan();
                    if (number < 0) {
                        law.empty = when();
                    } else {
                        law.numbers[number] = number(LEAST[number], MOST[number]);
                        take(";");
                    }
                } else {
                    throw misplaced();
                }
                law.lines++;
            }
            return law;
        }

        Node when() {
            take("when");
            Node node = either(0);
            take(";");
            return node;
        }

        Node either(int depth) {
            Node left = both(depth);
            while (is("or")) {
                now = scan();
                Node a = left;
                Node b = both(depth);
                left = (v, w) -> a.of(v, w) != 0 || b.of(v, w) != 0 ? 1 : 0;
            }
            return left;
        }

        Node both(int depth) {
            Node left = one(depth);
            while (is("and")) {
                now = scan();
                Node a = left;
                Node b = one(depth);
                left = (v, w) -> a.of(v, w) != 0 && b.of(v, w) != 0 ? 1 : 0;
            }
            return left;
        }

        Node one(int depth) {
            if (is("not")) {
                if (depth == 7) {
                    throw misplaced();
                }
                now = scan();
                Node a = one(depth + 1);
                return (v, w) -> a.of(v, w) == 0 ? 1 : 0;
            }
            Node a = sum(depth);
            if (is("<") || is(">") || is("=")) {
                String sign = now.text;
                now = scan();
                Node b = sum(depth);
                return switch (sign) {
                    case "<" -> (v, w) -> a.of(v, w) < b.of(v, w) ? 1 : 0;
                    case ">" -> (v, w) -> a.of(v, w) > b.of(v, w) ? 1 : 0;
                    default -> (v, w) -> a.of(v, w) == b.of(v, w) ? 1 : 0;
                };
            }
            return a;
        }

        Node sum(int depth) {
            Node left = term(depth);
            while (is("+") || is("-")) {
                boolean plus = is("+");
                now = scan();
                Node a = left;
                Node b = term(depth);
                left = plus ? (v, w) -> a.of(v, w) + b.of(v, w) : (v, w) -> a.of(v, w) - b.of(v, w);
            }
            return left;
        }

        Node term(int depth) {
            Node left = unit(depth);
            while (is("*") || is("/")) {
                boolean by = is("*");
                now = scan();
                Node a = left;
                Node b = unit(depth);
                left = by ? (v, w) -> a.of(v, w) * b.of(v, w)
                        : (v, w) -> b.of(v, w) == 0 ? 0 : a.of(v, w) / b.of(v, w);
            }
            return left;
        }

        Node unit(int depth) {
            units++;
            if (units > 80) {
                throw misplaced();
            }
            if (now.kind == 1) {
                int n = number(0, 9999);
                return (v, w) -> n;
            }
            if (is("(")) {
                if (depth == 7) {
                    throw misplaced();
                }
                now = scan();
                Node inner = either(depth + 1);
                take(")");
                return inner;
            }
            if (is("habit")) {
                now = scan();
                int kind = kind();
                return (v, w) -> {
                    int often = 0;
                    for (int ahead = 1; ahead <= 12; ahead++) {
                        if (w - ahead >= 0 && v.paid[w - ahead][kind] > 0) {
                            often++;
                        }
                    }
                    return often;
                };
            }
            String word = now.kind == 0 ? now.text : "";
            Node node = switch (word) {
                case "hours" -> (v, w) -> v.paid[w][5];
                case "total" -> (v, w) -> v.paid[w][0] + v.paid[w][1] + v.paid[w][2] + v.paid[w][3] + v.paid[w][4];
                case "week" -> (v, w) -> w;
                case "place" -> (v, w) -> v.place;
                case "term" -> (v, w) -> v.term;
                default -> {
                    int kind = Arrays.asList(KINDS).indexOf(word);
                    if (kind < 0) {
                        throw misplaced();
                    }
                    yield (v, w) -> v.paid[w][kind];
                }
            };
            now = scan();
            return node;
        }
    }

    // ---- facts

    int worker(int place, boolean term) {
        if (place < 0 || place > 9 || workers.size() == 10) {
            return -1;
        }
        workers.add(new Worker(place, term));
        return workers.size() - 1;
    }

    private int tell(boolean fits, String sort, int worker, int a, int b, int c) {
        if (!fits || worker < 0 || worker >= workers.size() || facts.size() == 250) {
            return -1;
        }
        Fact fact = new Fact();
        fact.sort = sort;
        fact.worker = worker;
        fact.a = a;
        fact.b = b;
        fact.c = c;
        fact.told = time;
        facts.add(fact);
        changes++;
        return facts.size() - 1;
    }

    private static boolean in(int n, int least, int most) {
        return n >= least && n <= most;
    }

    int pay(int worker, int week, int what, int many) {
        return tell(in(week, 0, 103) && in(what, 0, 5) && in(many, 0, what == 5 ? 99 : 9999), "pay", worker, week, what, many);
    }

    int lost(int worker, int week) {
        return tell(in(week, 0, 103), "lost", worker, week, 0, 0);
    }

    int bank(int worker, int a, int b, int total) {
        long before = facts.stream().filter(f -> f.sort.equals("bank") && f.worker == worker).count();
        return tell(in(a, 0, 103) && in(b, a, 103) && in(total, 0, 999999) && before < 10, "bank", worker, a, b, total);
    }

    int holiday(int worker, int day, int days, int paid) {
        return tell(in(day, 0, 727) && in(days, 1, 20) && in(paid, 0, 99999), "holiday", worker, day, days, paid);
    }

    int settle(int worker, int from, int to) {
        return tell(in(from, 0, 727) && in(to, from, 727), "barred", worker, from, to, 0);
    }

    int claim(int worker, int day) {
        return tell(in(day, 0, 999), "claim", worker, day, 0, 0);
    }

    boolean untell(int fact) {
        if (fact < 0 || fact >= facts.size() || facts.get(fact).gone) {
            return false;
        }
        facts.get(fact).gone = true;
        facts.get(fact).untold = time;
        changes++;
        return true;
    }

    int later(int by) {
        if (by < 0 || by > 1000 || time + by > 100000) {
            return -1;
        }
        time += by;
        return time;
    }

    private List<Integer> counting(String sort, int worker, int k) {
        List<Integer> all = new ArrayList<>();
        for (int i = 0; i < facts.size(); i++) {
            Fact f = facts.get(i);
            if (f.sort.equals(sort) && f.worker == worker && f.told <= k && !(f.gone && f.untold <= k)) {
                all.add(i);
            }
        }
        return all;
    }

    // ---- spans

    private Known known(int worker, int k) {
        return table.computeIfAbsent(worker + " " + k + " " + changes, key -> reckon(worker, k));
    }

    private Known reckon(int worker, int k) {
        int[][] paid = new int[104][6];
        boolean[] lost = new boolean[104];
        for (int i : counting("pay", worker, k)) {
            paid[facts.get(i).a][facts.get(i).b] = facts.get(i).c;
        }
        for (int i : counting("lost", worker, k)) {
            lost[facts.get(i).a] = true;
            paid[facts.get(i).a] = new int[6];
        }
        int[] least = new int[104];
        int[] most = new int[104];
        for (int w = 0; w < 104; w++) {
            for (int kind = 0; kind < 5; kind++) {
                least[w] += paid[w][kind];
            }
            most[w] = lost[w] ? 9999 : least[w];
        }
        List<Fact> banks = new ArrayList<>();
        for (int i : counting("bank", worker, k)) {
            banks.add(facts.get(i));
        }
        Known known = new Known();
        known.quarrel = -1;
        for (int size = 0; size <= 3 && known.quarrel < 0; size++) {
            for (int out = 0; out < 1 << banks.size() && known.quarrel < 0; out++) {
                if (Integer.bitCount(out) == size && feasible(least, most, banks, out)) {
                    known.quarrel = out;
                }
            }
        }
        long[][] far = distances(least, most, banks, known.quarrel < 0 ? (1 << banks.size()) - 1 : known.quarrel);
        known.low = new int[104][];
        known.high = new int[104][];
        for (int w = 0; w < 104; w++) {
            known.low[w] = paid[w].clone();
            known.high[w] = paid[w].clone();
            if (lost[w]) {
                known.low[w][0] = (int) -far[w + 1][w];
                known.high[w][0] = (int) far[w][w + 1];
            }
        }
        return known;
    }

    private static boolean feasible(int[] least, int[] most, List<Fact> banks, int out) {
        long[] d = new long[105];
        boolean sank = true;
        for (int round = 0; round <= 106 && sank; round++) {
            sank = false;
            for (int w = 0; w < 104; w++) {
                sank |= sink(d, w, w + 1, most[w]);
                sank |= sink(d, w + 1, w, -least[w]);
            }
            for (int b = 0; b < banks.size(); b++) {
                if ((out >> b & 1) == 0) {
                    Fact f = banks.get(b);
                    sank |= sink(d, f.a, f.b + 1, f.c);
                    sank |= sink(d, f.b + 1, f.a, -f.c);
                }
            }
        }
        return !sank;
    }

    private static boolean sink(long[] d, int from, int to, long by) {
        if (d[to] > d[from] + by) {
            d[to] = d[from] + by;
            return true;
        }
        return false;
    }

    private static long[][] distances(int[] least, int[] most, List<Fact> banks, int out) {
        long[][] d = new long[105][105];
        for (long[] row : d) {
            Arrays.fill(row, 1L << 40);
        }
        for (int i = 0; i < 105; i++) {
            d[i][i] = 0;
        }
        for (int w = 0; w < 104; w++) {
            d[w][w + 1] = most[w];
            d[w + 1][w] = -least[w];
        }
        for (int b = 0; b < banks.size(); b++) {
            if ((out >> b & 1) == 0) {
                Fact f = banks.get(b);
                d[f.a][f.b + 1] = Math.min(d[f.a][f.b + 1], f.c);
                d[f.b + 1][f.a] = Math.min(d[f.b + 1][f.a], -f.c);
            }
        }
        for (int m = 0; m < 105; m++) {
            for (int i = 0; i < 105; i++) {
                for (int j = 0; j < 105; j++) {
                    d[i][j] = Math.min(d[i][j], d[i][m] + d[m][j]);
                }
            }
        }
        return d;
    }

    int span(int worker, int week, boolean high, int k) {
        if (!isWorker(worker) || !in(week, 0, 103)) {
            return -1;
        }
        Known known = known(worker, k);
        return (high ? known.high : known.low)[week][0];
    }

    int quarrel(int worker, int k) {
        return isWorker(worker) ? known(worker, k).quarrel : -2;
    }

    // ---- averages and what follows

    private boolean isWorker(int worker) {
        return worker >= 0 && worker < workers.size();
    }

    private static boolean isShelf(int shelf) {
        return shelf >= 0 && shelf < 4;
    }

    private boolean isFact(String sort, int number) {
        return number >= 0 && number < facts.size() && facts.get(number).sort.equals(sort);
    }

    private View view(int worker, boolean high, int k) {
        View view = new View();
        view.place = workers.get(worker).place;
        view.term = workers.get(worker).term ? 1 : 0;
        view.paid = high ? known(worker, k).high : known(worker, k).low;
        return view;
    }

    private static int percent(Law law, View view, int week, int kind) {
        for (Line line : law.counts) {
            if (line.kind == kind && line.when.of(view, week) != 0) {
                return line.percent;
            }
        }
        return 0;
    }

    int counted(int shelf, int worker, int week, boolean high, int k) {
        if (!isShelf(shelf) || !isWorker(worker) || !in(week, 0, 103)) {
            return -1;
        }
        View view = view(worker, high, k);
        int sum = 0;
        for (int kind = 0; kind < 5; kind++) {
            sum += view.paid[week][kind] * percent(shelves[shelf], view, week, kind) / 100;
        }
        return sum;
    }

    int empty(int shelf, int worker, int week, boolean high, int k) {
        if (!isShelf(shelf) || !isWorker(worker) || !in(week, 0, 103)) {
            return -1;
        }
        Node empty = shelves[shelf].empty;
        return empty != null && empty.of(view(worker, high, k), week) != 0 ? 1 : 0;
    }

    private List<Integer> picked(int shelf, int holiday, boolean high, int k) {
        Fact f = facts.get(holiday);
        List<Integer> all = new ArrayList<>();
        for (int back = 1; back <= shelves[shelf].numbers[1]; back++) {
            int week = f.a / 7 - back;
            if (week >= 0 && all.size() < shelves[shelf].numbers[0] && empty(shelf, f.worker, week, high, k) == 0) {
                all.add(week);
            }
        }
        return all;
    }

    int average(int shelf, int holiday, boolean high, int k) {
        if (!isShelf(shelf) || !isFact("holiday", holiday)) {
            return -1;
        }
        List<Integer> picked = picked(shelf, holiday, high, k);
        int sum = 0;
        for (int week : picked) {
            sum += counted(shelf, facts.get(holiday).worker, week, high, k);
        }
        return picked.isEmpty() ? 0 : sum / picked.size();
    }

    int weeks(int shelf, int holiday, boolean high, int k) {
        return isShelf(shelf) && isFact("holiday", holiday) ? picked(shelf, holiday, high, k).size() : -1;
    }

    int owed(int shelf, int holiday, boolean high, int k) {
        if (!isShelf(shelf) || !isFact("holiday", holiday)) {
            return -1;
        }
        Fact f = facts.get(holiday);
        for (int i : counting("barred", f.worker, k)) {
            if (facts.get(i).a <= f.a && f.a <= facts.get(i).b) {
                return 0;
            }
        }
        return Math.max(0, average(shelf, holiday, high, k) * f.b / shelves[shelf].numbers[2] - f.c);
    }

    /** The CHAIN, the last HOLIDAY first. */
    private List<Integer> links(int shelf, int claim, boolean high, int k) {
        Fact c = facts.get(claim);
        int[] numbers = shelves[shelf].numbers;
        List<Integer> rests = new ArrayList<>();
        for (int i : counting("holiday", c.worker, k)) {
            if (facts.get(i).a <= c.a && owed(shelf, i, high, k) > 0) {
                rests.add(i);
            }
        }
        rests.sort((x, y) -> facts.get(x).a != facts.get(y).a ? facts.get(y).a - facts.get(x).a : y - x);
        List<Integer> links = new ArrayList<>();
        for (int i = 0; i < rests.size(); i++) {
            int day = facts.get(rests.get(i)).a;
            if (i == 0 ? c.a - day > numbers[4] : facts.get(rests.get(i - 1)).a - day > numbers[3]) {
                break;
            }
            links.add(rests.get(i));
        }
        links.removeIf(i -> c.a - facts.get(i).a > numbers[5]);
        return links;
    }

    int chain(int shelf, int claim, boolean high, int k) {
        return isShelf(shelf) && isFact("claim", claim) ? links(shelf, claim, high, k).size() : -1;
    }

    int link(int shelf, int claim, int n, boolean high, int k) {
        if (!isShelf(shelf) || !isFact("claim", claim)) {
            return -1;
        }
        List<Integer> links = links(shelf, claim, high, k);
        return n >= 0 && n < links.size() ? links.get(n) : -1;
    }

    private long one(int shelf, int holiday, int day, boolean high, int k) {
        long owed = owed(shelf, holiday, high, k);
        return owed + owed * shelves[shelf].numbers[6] * (day - facts.get(holiday).a) / 365000;
    }

    long due(int shelf, int claim, boolean high, int k) {
        if (!isShelf(shelf) || !isFact("claim", claim)) {
            return -1;
        }
        long sum = 0;
        for (int i : links(shelf, claim, high, k)) {
            sum += one(shelf, i, facts.get(claim).a, high, k);
        }
        return sum;
    }

    /** Each HOLIDAY in a CHAIN of the worker, with the day of its first CLAIM. */
    private Map<Integer, Integer> claimed(int shelf, int worker, boolean high, int k) {
        Map<Integer, Integer> first = new HashMap<>();
        for (int claim : counting("claim", worker, k)) {
            for (int i : links(shelf, claim, high, k)) {
                first.merge(i, facts.get(claim).a, Math::min);
            }
        }
        return first;
    }

    long payout(int shelf, int worker, boolean high, int k) {
        if (!isShelf(shelf) || !isWorker(worker)) {
            return -1;
        }
        long sum = 0;
        for (Map.Entry<Integer, Integer> e : claimed(shelf, worker, high, k).entrySet()) {
            sum += one(shelf, e.getKey(), e.getValue(), high, k);
        }
        return sum;
    }

    long quarrels(int a, int b, boolean high, int k) {
        if (!isShelf(a) || !isShelf(b)) {
            return -1000000000000L;
        }
        long sum = 0;
        for (int w = 0; w < workers.size(); w++) {
            sum += payout(a, w, high, k) - payout(b, w, high, k);
        }
        return sum;
    }

    int marks(int shelf, int worker, boolean high, int k) {
        if (!isShelf(shelf) || !isWorker(worker)) {
            return -1;
        }
        int bits = 0;
        View view = view(worker, high, k);
        for (int holiday : claimed(shelf, worker, high, k).keySet()) {
            for (int week : picked(shelf, holiday, high, k)) {
                for (int kind = 0; kind < 5; kind++) {
                    if (view.paid[week][kind] > 0 && percent(shelves[shelf], view, week, kind) > 0) {
                        bits |= 1 << kind;
                    }
                }
            }
        }
        return bits;
    }

    private long[] best(int shelf, int t, boolean high, int k) {
        int n = workers.size();
        long[] payouts = new long[n];
        int[] marks = new int[n];
        for (int w = 0; w < n; w++) {
            payouts[w] = payout(shelf, w, high, k);
            marks[w] = marks(shelf, w, high, k);
        }
        long[] best = null;
        for (int set = 0; set < 1 << n; set++) {
            long[] one = settled(set, payouts, marks);
            boolean better = best == null || one[1] > best[1]
                    || one[1] == best[1] && Long.bitCount(set) < Long.bitCount(best[0]);
            if (Integer.bitCount(set) <= t && one[1] >= 0 && better) {
                best = one;
            }
        }
        return best;
    }

    private static long[] settled(int set, long[] payouts, int[] marks) {
        long sum = 0;
        for (int w = 0; w < payouts.length; w++) {
            if ((set >> w & 1) != 0 && payouts[w] <= 0) {
                return new long[] {set, -1};
            }
            boolean all = true;
            for (int mark = 0; mark < 5; mark++) {
                boolean found = (marks[w] >> mark & 1) == 0;
                for (int other = 0; other < payouts.length; other++) {
                    found |= (set >> other & 1) != 0 && (marks[other] >> mark & 1) != 0;
                }
                all &= found;
            }
            sum += all ? payouts[w] : 0;
        }
        return new long[] {set, sum};
    }

    int tests(int shelf, int t, boolean high, int k) {
        return isShelf(shelf) && in(t, 0, 10) ? (int) best(shelf, t, high, k)[0] : -1;
    }

    long settles(int shelf, int t, boolean high, int k) {
        return isShelf(shelf) && in(t, 0, 10) ? best(shelf, t, high, k)[1] : -1;
    }

    int about(int what) {
        return switch (what) {
            case 0 -> workers.size();
            case 1 -> facts.size();
            case 2 -> time;
            case 3 -> tape.length();
            case 10, 11, 12, 13 -> shelves[what - 10].lines;
            default -> -1;
        };
    }
}
