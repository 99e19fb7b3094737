import java.util.Arrays;

/** An office that tells what is owed for days of rest. */
public final class RestPay {
    public static final int NONE = -1;

    private static final int NO_SUCH = -2;
    private static final long NO_DIFFERENCE = -1000000000000L;

    private static final int MOST_BYTES = 900;
    private static final int BYTES_A_FEED = 20;
    private static final int SHELVES = 4;
    private static final int MOST_WORKERS = 10;
    private static final int MOST_FACTS = 250;
    private static final int MOST_BANKS = 10;
    private static final int MOST_LEFT_OUT = 3;

    private static final int LAST_PLACE = 9;
    private static final int WEEKS = 104;
    private static final int DAYS_A_WEEK = 7;
    private static final int LAST_DAY = 727;
    private static final int LAST_CLAIM_DAY = 999;
    private static final int MOST_REST_DAYS = 20;
    private static final int MOST_PAID = 99999;
    private static final int MOST_TOTAL = 999999;
    private static final int MOST_LATER = 1000;
    private static final int LAST_TIME = 100000;

    private static final int KINDS = 5;
    private static final int BASE_PAY = 0;
    private static final int HOURS = 5;
    private static final int WHATS = 6;
    private static final int MOST_PAY = 9999;
    private static final int MOST_HOURS = 99;
    private static final int HABIT_WEEKS = 12;
    private static final int MARK_SETS = 32;

    private static final int PAY = 0;
    private static final int LOST = 1;
    private static final int BANK = 2;
    private static final int HOLIDAY = 3;
    private static final int BARRED = 4;
    private static final int CLAIM = 5;

    private final Reader reader = new Reader();
    private final Act[] shelves = new Act[SHELVES];
    private final Worker[] workers = new Worker[MOST_WORKERS];
    private int workerCount;
    private final Fact[] facts = new Fact[MOST_FACTS];
    private int factCount;
    private int time;

    private final Sums sums = new Sums();
    private final Sheet sheet = new Sheet();
    private final long[] payouts = new long[MOST_WORKERS];
    private final int[] markSets = new int[MOST_WORKERS];
    private final long[] settledBy = new long[MARK_SETS];
    private long bestSettled;

    public RestPay() {
        Act blank = new Act();
        for (int i = 0; i < shelves.length; i++) {
            shelves[i] = blank;
        }
    }

    public int feed(int a, int b, int c, int d, int e) {
        if (reader.tapeSize > MOST_BYTES - BYTES_A_FEED) {
            return NONE;
        }
        reader.putBytes(a);
        reader.putBytes(b);
        reader.putBytes(c);
        reader.putBytes(d);
        reader.putBytes(e);
        return reader.tapeSize;
    }

    public int end(int n) {
        if (n < 0 || n > reader.tapeSize) {
            return NONE;
        }
        reader.tapeSize = n;
        return n;
    }

    public int act(int shelf) {
        if (shelf < 0 || shelf >= shelves.length) {
            return NO_SUCH;
        }
        Act read = reader.readTape();
        if (reader.fault != Reader.NO_FAULT) {
            return NONE;
        }
        shelves[shelf] = read;
        return read.lines;
    }

    public int fault(int what) {
        if (what == 0) {
            return reader.fault;
        }
        return what == 1 ? reader.faultPlace : NONE;
    }

    public int worker(int place, boolean term) {
        if (!within(place, 0, LAST_PLACE) || workerCount < 0 || workerCount >= workers.length) {
            return NONE;
        }
        workers[workerCount] = new Worker(place, term);
        workerCount++;
        return workerCount - 1;
    }

    public int pay(int worker, int week, int what, int many) {
        boolean fits = isWeek(week) && within(what, 0, HOURS)
                && within(many, 0, what == HOURS ? MOST_HOURS : MOST_PAY);
        return fits ? tell(PAY, worker, week, what, many) : NONE;
    }

    public int lost(int worker, int week) {
        return isWeek(week) ? tell(LOST, worker, week, 0, 0) : NONE;
    }

    public int bank(int worker, int a, int b, int total) {
        Worker of = workerAt(worker);
        boolean fits = isWeek(a) && isWeek(b) && a <= b && within(total, 0, MOST_TOTAL);
        if (!fits || of == null || of.banksTold >= MOST_BANKS) {
            return NONE;
        }
        int number = tell(BANK, worker, a, b, total);
        if (number != NONE) {
            of.banksTold++;
        }
        return number;
    }

    public int holiday(int worker, int day, int days, int paid) {
        boolean fits = isDay(day) && within(days, 1, MOST_REST_DAYS) && within(paid, 0, MOST_PAID);
        return fits ? tell(HOLIDAY, worker, day, days, paid) : NONE;
    }

    public int settle(int worker, int from, int to) {
        boolean fits = isDay(from) && isDay(to) && from <= to;
        return fits ? tell(BARRED, worker, from, to, 0) : NONE;
    }

    public int claim(int worker, int day) {
        return within(day, 0, LAST_CLAIM_DAY) ? tell(CLAIM, worker, day, 0, 0) : NONE;
    }

    /** Keeps a FACT whose numbers have been looked at; its number, or NONE. */
    private int tell(int sort, int worker, int from, int to, int many) {
        Worker of = workerAt(worker);
        if (of == null || factCount < 0 || factCount >= facts.length) {
            return NONE;
        }
        Fact fact = new Fact(factCount, sort, from, to, many, time);
        fact.worker = worker;
        facts[factCount] = fact;
        factCount++;
        of.keep(fact);
        return fact.number;
    }

    public boolean untell(int fact) {
        Fact gone = factAt(fact);
        if (gone == null || gone.untold != NONE) {
            return false;
        }
        gone.untold = time;
        Worker of = workerAt(gone.worker);
        if (of != null) {
            of.laid = false;
        }
        return true;
    }

    public int later(int by) {
        if (!within(by, 0, MOST_LATER) || time + by > LAST_TIME) {
            return NONE;
        }
        time += by;
        return time;
    }

    public int span(int worker, int week, boolean high, int k) {
        Worker of = workerAt(worker);
        if (of == null || !isWeek(week)) {
            return NONE;
        }
        of.layOut(k, sums);
        return at(high ? of.highs : of.lows, week);
    }

    public int quarrel(int worker, int k) {
        Worker of = workerAt(worker);
        if (of == null) {
            return NO_SUCH;
        }
        of.layOut(k, sums);
        return of.leftOut;
    }

    public int counted(int shelf, int worker, int week, boolean high, int k) {
        if (!isWeek(week) || !openSheet(shelf, worker, high, k)) {
            return NONE;
        }
        return sheet.countIn(week);
    }

    public int empty(int shelf, int worker, int week, boolean high, int k) {
        if (!isWeek(week) || !openSheet(shelf, worker, high, k)) {
            return NONE;
        }
        return sheet.emptyIn(week);
    }

    public int average(int shelf, int holiday, boolean high, int k) {
        Fact rest = factOf(HOLIDAY, holiday);
        if (rest == null || !openSheet(shelf, rest.worker, high, k)) {
            return NONE;
        }
        return sheet.averageFor(rest.from);
    }

    public int weeks(int shelf, int holiday, boolean high, int k) {
        Fact rest = factOf(HOLIDAY, holiday);
        if (rest == null || !openSheet(shelf, rest.worker, high, k)) {
            return NONE;
        }
        sheet.averageFor(rest.from);
        return sheet.weeksPicked;
    }

    public int owed(int shelf, int holiday, boolean high, int k) {
        Fact rest = factOf(HOLIDAY, holiday);
        if (rest == null || !openSheet(shelf, rest.worker, high, k)) {
            return NONE;
        }
        return sheet.owedFor(rest, k);
    }

    public int chain(int shelf, int claim, boolean high, int k) {
        return openChain(shelf, claim, high, k) ? sheet.links() : NONE;
    }

    public int link(int shelf, int claim, int n, boolean high, int k) {
        if (!openChain(shelf, claim, high, k) || n < 0 || n >= sheet.links()) {
            return NONE;
        }
        Fact rest = sheet.listedAt(sheet.lastLink - n);
        return rest == null ? NONE : rest.number;
    }

    public long due(int shelf, int claim, boolean high, int k) {
        Fact asked = factOf(CLAIM, claim);
        if (asked == null || !openChain(shelf, claim, high, k)) {
            return NONE;
        }
        return sheet.dueOn(asked.from);
    }

    public long payout(int shelf, int worker, boolean high, int k) {
        if (!openSheet(shelf, worker, high, k)) {
            return NONE;
        }
        sheet.listHolidays(k);
        sheet.joinClaims(k);
        return sheet.payoutSum;
    }

    public long quarrels(int a, int b, boolean high, int k) {
        if (shelfAt(a) == null || shelfAt(b) == null) {
            return NO_DIFFERENCE;
        }
        long first = weighAll(a, high, k);
        return first - weighAll(b, high, k);
    }

    public int marks(int shelf, int worker, boolean high, int k) {
        if (!openSheet(shelf, worker, high, k)) {
            return NONE;
        }
        sheet.listHolidays(k);
        sheet.joinClaims(k);
        return sheet.markBits;
    }

    public int tests(int shelf, int t, boolean high, int k) {
        if (shelfAt(shelf) == null || !within(t, 0, MOST_WORKERS)) {
            return NONE;
        }
        weighAll(shelf, high, k);
        return bestTests(t);
    }

    public long settles(int shelf, int t, boolean high, int k) {
        if (shelfAt(shelf) == null || !within(t, 0, MOST_WORKERS)) {
            return NONE;
        }
        weighAll(shelf, high, k);
        bestTests(t);
        return bestSettled;
    }

    public int about(int what) {
        switch (what) {
            case 0:
                return workerCount;
            case 1:
                return factCount;
            case 2:
                return time;
            case 3:
                return reader.tapeSize;
            default:
                Act act = within(what, 10, 10 + SHELVES - 1) ? shelfAt(what - 10) : null;
                return act == null ? NONE : act.lines;
        }
    }

    private static boolean within(int number, int least, int most) {
        return number >= least && number <= most;
    }

    private static boolean isWeek(int week) {
        return within(week, 0, WEEKS - 1);
    }

    private static boolean isDay(int day) {
        return within(day, 0, LAST_DAY);
    }

    private static int at(int[] row, int i) {
        return i >= 0 && i < row.length ? row[i] : 0;
    }

    private Act shelfAt(int shelf) {
        return shelf >= 0 && shelf < shelves.length ? shelves[shelf] : null;
    }

    private Worker workerAt(int worker) {
        return worker >= 0 && worker < workerCount && worker < workers.length ? workers[worker] : null;
    }

    private Fact factAt(int number) {
        return number >= 0 && number < factCount && number < facts.length ? facts[number] : null;
    }

    private Fact factOf(int sort, int number) {
        Fact fact = factAt(number);
        return fact != null && fact.sort == sort ? fact : null;
    }

    /** Lays a worker's weeks, AS KNOWN at k, under a SHELF's ACT; false if there is no such worker or SHELF. */
    private boolean openSheet(int shelf, int worker, boolean high, int k) {
        Act act = shelfAt(shelf);
        Worker of = workerAt(worker);
        if (act == null || of == null) {
            return false;
        }
        of.layOut(k, sums);
        sheet.open(act, of, high);
        return true;
    }

    private boolean openChain(int shelf, int claim, boolean high, int k) {
        Fact asked = factOf(CLAIM, claim);
        if (asked == null || !openSheet(shelf, asked.worker, high, k)) {
            return false;
        }
        sheet.listHolidays(k);
        sheet.findChain(asked.from);
        return true;
    }

    /** Reckons PAYOUT and MARKS of every worker; the PAYOUTS together. */
    private long weighAll(int shelf, boolean high, int k) {
        long all = 0;
        for (int w = 0; w < payouts.length && w < markSets.length; w++) {
            payouts[w] = 0;
            markSets[w] = 0;
            if (openSheet(shelf, w, high, k)) {
                sheet.listHolidays(k);
                sheet.joinClaims(k);
                payouts[w] = sheet.payoutSum;
                markSets[w] = sheet.markBits;
            }
            all += payouts[w];
        }
        return all;
    }

    /** TESTS out of what weighAll found, as bits; bestSettled is what they settle. */
    private int bestTests(int t) {
        weighMarkSets();
        int best = 0;
        bestSettled = settledBy[0];
        for (int set = 1; set < 1 << workerCount; set++) {
            int size = Integer.bitCount(set);
            int marks = size <= t ? marksOfSet(set) : NONE;
            if (marks >= 0 && marks < settledBy.length) {
                long settled = settledBy[marks];
                boolean better = settled > bestSettled
                        || settled == bestSettled && size < Integer.bitCount(best);
                if (better) {
                    best = set;
                    bestSettled = settled;
                }
            }
        }
        return best;
    }

    /** For each set of MARKS the PAYOUTS of all workers who have no others. */
    private void weighMarkSets() {
        for (int marks = 0; marks < settledBy.length; marks++) {
            long sum = 0;
            for (int w = 0; w < payouts.length && w < markSets.length; w++) {
                if ((markSets[w] & ~marks) == 0) {
                    sum += payouts[w];
                }
            }
            settledBy[marks] = sum;
        }
    }

    /** All MARKS of a set of workers; NONE if one of them has no PAYOUT. */
    private int marksOfSet(int set) {
        int marks = 0;
        for (int w = 0; w < payouts.length && w < markSets.length; w++) {
            if ((set >> w & 1) != 0) {
                if (payouts[w] <= 0) {
                    return NONE;
                }
                marks |= markSets[w];
            }
        }
        return marks;
    }

    /** Something TOLD of a worker; what its numbers mean depends on its sort. */
    private static final class Fact {
        final int number;
        final int sort;
        final int from;
        final int to;
        final int many;
        final int told;
        int worker;
        int untold = NONE;
        /** The worker's next FACT. */
        Fact next;
        /** Of a HOLIDAY that the sheet lists: its OWED, the MARKS of its AVERAGE, its first CLAIM's day. */
        int owedNow;
        int marksNow;
        int claimedOn;

        Fact(int number, int sort, int from, int to, int many, int told) {
            this.number = number;
            this.sort = sort;
            this.from = from;
            this.to = to;
            this.many = many;
            this.told = told;
        }

        boolean countsAt(int k) {
            return told <= k && (untold == NONE || untold > k);
        }
    }

    /** A worker, with the weeks as they were last laid out for a time. */
    private static final class Worker {
        final int place;
        final int term;
        Fact first;
        Fact last;
        int banksTold;

        boolean laid;
        int laidAt;
        /** What was paid: of each what a row of WEEKS (base stands in lows and highs). */
        final int[] paid = new int[WHATS * WEEKS];
        final int[] isLost = new int[WEEKS];
        final int[] lows = new int[WEEKS];
        final int[] highs = new int[WEEKS];
        int leftOut;

        Worker(int place, boolean term) {
            this.place = place;
            this.term = term ? 1 : 0;
        }

        void keep(Fact fact) {
            if (last == null) {
                first = fact;
            } else {
                last.next = fact;
            }
            last = fact;
            laid = false;
        }

        /** Makes the rows tell what is known at k; nothing to do if they still do. */
        void layOut(int k, Sums sums) {
            if (laid && laidAt == k) {
                return;
            }
            Arrays.fill(paid, 0);
            Arrays.fill(isLost, 0);
            for (Fact fact = first; fact != null; fact = fact.next) {
                if (fact.countsAt(k)) {
                    note(fact);
                }
            }
            for (int week = 0; week < WEEKS && week < isLost.length; week++) {
                if (isLost[week] != 0) {
                    forget(week);
                }
            }
            System.arraycopy(paid, BASE_PAY * WEEKS, lows, 0, WEEKS);
            System.arraycopy(paid, BASE_PAY * WEEKS, highs, 0, WEEKS);
            leftOut = sums.spread(this, k);
            laid = true;
            laidAt = k;
        }

        private void note(Fact fact) {
            int i = fact.to * WEEKS + fact.from;
            if (fact.sort == PAY && i >= 0 && i < paid.length) {
                paid[i] = fact.many;
            }
            if (fact.sort == LOST && fact.from >= 0 && fact.from < isLost.length) {
                isLost[fact.from] = 1;
            }
        }

        private void forget(int week) {
            for (int i = week; i >= 0 && i < paid.length; i += WEEKS) {
                paid[i] = 0;
            }
        }

        int totalPaid(int week) {
            int total = 0;
            for (int kind = 0; kind < KINDS; kind++) {
                total += at(paid, kind * WEEKS + week);
            }
            return total;
        }
    }

    /**
     * The BANKS of one worker against the LOST WEEKS. Every BANK holds for a run of WEEKS, so the sums
     * of what was lost ahead of its ends (the posts) differ by a number that is known; between
     * neighbouring posts they grow by 0 up to what the LOST WEEKS there can hold. Such bounds on
     * differences have a way in whole numbers just if no round of them sinks for ever, and the shortest
     * paths are the exact bounds.
     */
    private static final class Sums {
        private static final int MOST_POSTS = 2 * MOST_BANKS;

        private final int[] starts = new int[MOST_BANKS];
        private final int[] ends = new int[MOST_BANKS];
        private final int[] rests = new int[MOST_BANKS];
        private int banks;
        /** The post at a WEEK's beginning, or NONE. */
        private final int[] postAt = new int[WEEKS + 1];
        private final int[] paidAhead = new int[MOST_POSTS];
        /** What the LOST WEEKS from a post to the next one can hold. */
        private final int[] rooms = new int[MOST_POSTS];
        private int allRooms;
        private int posts;
        private final int[] reach = new int[MOST_POSTS];
        private final int[] least = new int[MOST_POSTS];
        private final int[] most = new int[MOST_POSTS];

        /** Writes the SPANS of the LOST WEEKS into lows and highs; the QUARREL, or NONE. */
        int spread(Worker worker, int k) {
            gather(worker, k);
            setPosts(worker);
            for (int b = 0; b < banks && b < rests.length; b++) {
                starts[b] = at(postAt, starts[b]);
                ends[b] = at(postAt, ends[b]);
                rests[b] -= at(paidAhead, ends[b]) - at(paidAhead, starts[b]);
            }
            int out = leaveOut();
            boundGaps(out == NONE ? (1 << banks) - 1 : out);
            writeSpans(worker);
            return out;
        }

        private void gather(Worker worker, int k) {
            banks = 0;
            Arrays.fill(postAt, NONE);
            for (Fact fact = worker.first; fact != null; fact = fact.next) {
                if (fact.sort == BANK && fact.countsAt(k)) {
                    addBank(fact.from, fact.to + 1, fact.many);
                }
            }
        }

        private void addBank(int start, int end, int total) {
            boolean fits = start >= 0 && start < end && end < postAt.length;
            if (fits && banks >= 0 && banks < MOST_BANKS) {
                postAt[start] = 0;
                postAt[end] = 0;
                starts[banks] = start;
                ends[banks] = end;
                rests[banks] = total;
                banks++;
            }
        }

        private void setPosts(Worker worker) {
            posts = 0;
            allRooms = 0;
            int paidSoFar = 0;
            Arrays.fill(rooms, 0);
            for (int week = 0; week < postAt.length; week++) {
                if (postAt[week] != NONE && posts >= 0 && posts < MOST_POSTS) {
                    paidAhead[posts] = paidSoFar;
                    postAt[week] = posts;
                    posts++;
                }
                if (posts > 0 && posts <= MOST_POSTS && at(worker.isLost, week) != 0) {
                    rooms[posts - 1] += MOST_PAY;
                    allRooms += MOST_PAY;
                }
                paidSoFar += week < WEEKS ? worker.totalPaid(week) : 0;
            }
        }

        /** The QUARREL; a BANK that can't hold even alone is in any set that does, so no other sets are tried. */
        private int leaveOut() {
            int hopeless = hopelessBanks();
            for (int size = Integer.bitCount(hopeless); size <= MOST_LEFT_OUT; size++) {
                for (int out = 0; out < 1 << banks; out++) {
                    if ((hopeless & ~out) == 0 && Integer.bitCount(out) == size) {
                        Arrays.fill(reach, 0);
                        if (comesToRest(out)) {
                            return out;
                        }
                    }
                }
            }
            return NONE;
        }

        private int hopelessBanks() {
            int bits = 0;
            for (int b = 0; b < banks && b < rests.length; b++) {
                int room = 0;
                for (int post = starts[b]; post < ends[b]; post++) {
                    room += at(rooms, post);
                }
                if (rests[b] < 0 || rests[b] > room) {
                    bits |= 1 << b;
                }
            }
            return bits;
        }

        /**
         * Lowers reach by all bounds until none lowers it; false if that would go on for ever. If it does
         * not, no post sinks deeper than all rooms together.
         */
        private boolean comesToRest(int out) {
            for (int round = 0; round <= posts && reach[0] >= -allRooms; round++) {
                boolean lowered = lowerByGaps();
                if (!lowerByBanks(out) && !lowered) {
                    return true;
                }
            }
            return false;
        }

        private boolean lowerByGaps() {
            boolean lowered = false;
            for (int i = 1; i < posts && i < MOST_POSTS; i++) {
                int top = reach[i - 1] + rooms[i - 1];
                if (reach[i] > top) {
                    reach[i] = top;
                    lowered = true;
                }
            }
            for (int i = posts - 1; i > 0; i--) {
                if (i < MOST_POSTS && reach[i - 1] > reach[i]) {
                    reach[i - 1] = reach[i];
                    lowered = true;
                }
            }
            return lowered;
        }

        private boolean lowerByBanks(int out) {
            boolean lowered = false;
            for (int b = 0; b < banks && b < rests.length; b++) {
                int start = starts[b];
                int end = ends[b];
                boolean fits = start >= 0 && start < reach.length && end >= 0 && end < reach.length;
                if ((out >> b & 1) == 0 && fits) {
                    if (reach[end] > reach[start] + rests[b]) {
                        reach[end] = reach[start] + rests[b];
                        lowered = true;
                    }
                    if (reach[start] > reach[end] - rests[b]) {
                        reach[start] = reach[end] - rests[b];
                        lowered = true;
                    }
                }
            }
            return lowered;
        }

        /** The least and the most that the LOST WEEKS between neighbouring posts hold together. */
        private void boundGaps(int out) {
            for (int post = 0; post < posts && post < MOST_POSTS; post++) {
                reachFrom(post);
                comesToRest(out);
                most[post] = at(reach, post + 1);
                if (post > 0) {
                    least[post - 1] = -reach[post - 1];
                }
            }
        }

        /** Starts from the bounds of the gaps alone, so that no post is without one. */
        private void reachFrom(int post) {
            int far = 0;
            for (int i = 0; i < posts && i < MOST_POSTS; i++) {
                if (i > post) {
                    far += at(rooms, i - 1);
                }
                reach[i] = far;
            }
        }

        private void writeSpans(Worker worker) {
            int post = NONE;
            for (int week = 0; week < WEEKS; week++) {
                if (at(postAt, week) != NONE) {
                    post = at(postAt, week);
                }
                if (at(worker.isLost, week) != 0) {
                    boolean between = post >= 0 && post < posts - 1;
                    int others = at(rooms, post) - MOST_PAY;
                    worker.lows[week] = between ? Math.max(0, at(least, post) - others) : 0;
                    worker.highs[week] = between ? Math.min(MOST_PAY, at(most, post)) : MOST_PAY;
                }
            }
        }
    }

    /** A counts line: by how many of a hundred a KIND counts, and when. */
    private static final class Rule {
        final int kind;
        final int percent;
        final int[] when;

        Rule(int kind, int percent, int[] when) {
            this.kind = kind;
            this.percent = percent;
            this.when = when;
        }
    }

    /** What a text says; each e is kept as a row of steps for a stack (Step). */
    private static final class Act {
        static final int MOST_RULES = 10;
        static final int WEEKS_PICKED = 0;
        static final int BACK = 1;
        static final int DAYS = 2;
        static final int CHAIN = 3;
        static final int LATE = 4;
        static final int STOP = 5;
        static final int INTEREST = 6;

        final Rule[] rules = new Rule[MOST_RULES];
        int ruleCount;
        int[] emptyWhen = {};
        boolean saysEmpty;
        final int[] numbers = {12, 104, 5, 90, 90, 9999, 0};
        int lines;

        void addRule(Rule rule) {
            if (ruleCount >= 0 && ruleCount < rules.length) {
                rules[ruleCount] = rule;
                ruleCount++;
            }
        }

        int number(int which) {
            return at(numbers, which);
        }
    }

    /** The numbers of the steps: below LEAVES an N itself, from JOINS on JOINS and the token that joins. */
    private static final class Step {
        static final int LEAVES = 10000;
        static final int TOTAL = LEAVES + 6;
        static final int WEEK = LEAVES + 7;
        static final int PLACE = LEAVES + 8;
        static final int TERM = LEAVES + 9;
        static final int HABITS = LEAVES + 10;
        static final int JOINS = 20000;
    }

    /** Reads the TAPE as an ACT and keeps the first FAULT. */
    private static final class Reader {
        static final int NO_FAULT = 0;
        private static final int NO_TOKEN = 1;
        private static final int MISPLACED = 2;
        private static final int BAD_NUMBER = 4;

        private static final int LONGEST_WORD = 8;
        private static final int LONGEST_NUMBER = 4;
        private static final int MOST_UNITS = 80;
        private static final int MOST_NESTED = 7;
        private static final int ONE = 2;
        private static final int UNIT = 5;

        /** Words by their numbers, eight signs for each. */
        private static final String WORDS = "counts  empty   weeks   back    days    chain   late    stop    interestwhen    or      and     not     base    overtimesales   travel  bonus   hours   total   week    place   term    habit   ";
        private static final String SIGNS = ";()<>=+-*/";
        private static final int COUNTS = 0;
        private static final int EMPTY = 1;
        private static final int WEEKS_LINE = 2;
        private static final int INTEREST_LINE = 8;
        private static final int WHEN = 9;
        static final int OR = 10;
        static final int AND = 11;
        static final int NOT = 12;
        private static final int BASE = 13;
        private static final int BONUS = 17;
        private static final int TERM = 22;
        private static final int HABIT = 23;
        /** Tokens that are no known word; a sign's token is its own byte, between these and NUMBERS. */
        private static final int OTHER_WORD = 24;
        private static final int END = 25;
        private static final int NO_SUCH_TOKEN = 26;
        /** An N's token is NUMBERS and what it says. */
        private static final int NUMBERS = 1000;

        private static final int[] LEAST = {1, 1, 1, 1, 0, 0, 0};
        private static final int[] MOST = {52, 104, 7, 999, 999, 9999, 999};

        private final byte[] tape = new byte[MOST_BYTES];
        int tapeSize;
        private int cursor;
        /** All tokens of the text up to the first place without one, and where they begin. */
        private final int[] tokens = new int[MOST_BYTES + 1];
        private final int[] places = new int[MOST_BYTES + 1];
        private int tokenCount;
        private int reading;
        private int token;
        private final int[] steps = new int[MOST_BYTES];
        private int stepCount;
        private int units;
        private int linesSeen;
        int fault = NO_FAULT;
        int faultPlace = NONE;

        /** Puts the four bytes of a number behind the others. */
        void putBytes(int number) {
            for (int shift = 24; shift >= 0; shift -= 8) {
                if (tapeSize >= 0 && tapeSize < tape.length) {
                    tape[tapeSize] = (byte) (number >> shift);
                    tapeSize++;
                }
            }
        }

        /** Empties the TAPE; the ACT that it was, which is whole only if there is no fault then. */
        Act readTape() {
            splitTape();
            tapeSize = 0;
            units = 0;
            linesSeen = 0;
            fault = NO_FAULT;
            faultPlace = NONE;
            reading = NONE;
            Act act = new Act();
            nextToken();
            for (int i = 0; i < MOST_BYTES && fault == NO_FAULT && token != END; i++) {
                if (token == COUNTS) {
                    readCounts(act);
                } else {
                    readOnce(act);
                }
                act.lines++;
            }
            return act;
        }

        private void splitTape() {
            cursor = 0;
            tokenCount = 0;
            int found = NUMBERS;
            for (int i = 0; i <= MOST_BYTES && found != NO_SUCH_TOKEN && found != END; i++) {
                while (cursor < tapeSize && isBlank(byteAt(cursor))) {
                    cursor++;
                }
                int place = cursor;
                found = scanToken();
                if (tokenCount >= 0 && tokenCount < tokens.length && tokenCount < places.length) {
                    tokens[tokenCount] = found;
                    places[tokenCount] = place;
                    tokenCount++;
                }
            }
        }

        private int byteAt(int i) {
            return i >= 0 && i < tapeSize && i < tape.length ? tape[i] & 255 : NONE;
        }

        private static boolean isLetter(int sign) {
            return sign >= 'a' && sign <= 'z';
        }

        private static boolean isDigit(int sign) {
            return sign >= '0' && sign <= '9';
        }

        private static boolean isBlank(int sign) {
            return sign == 32 || sign == 10;
        }

        /** The token at the cursor, which goes behind it. */
        private int scanToken() {
            int sign = byteAt(cursor);
            if (sign == NONE) {
                return END;
            }
            if (isLetter(sign)) {
                return scanWord();
            }
            if (isDigit(sign)) {
                return scanNumber();
            }
            cursor++;
            return SIGNS.indexOf((char) sign) >= 0 ? sign : NO_SUCH_TOKEN;
        }

        private int scanWord() {
            int from = cursor;
            while (cursor < tapeSize && isLetter(byteAt(cursor))) {
                cursor++;
            }
            if (cursor - from > LONGEST_WORD) {
                return NO_SUCH_TOKEN;
            }
            for (int word = 0; word < OTHER_WORD; word++) {
                if (isWord(word, from)) {
                    return word;
                }
            }
            return OTHER_WORD;
        }

        private boolean isWord(int word, int from) {
            for (int i = 0; i < LONGEST_WORD; i++) {
                int sign = from + i < cursor ? byteAt(from + i) : ' ';
                int j = word * LONGEST_WORD + i;
                if (j < 0 || j >= WORDS.length() || WORDS.charAt(j) != sign) {
                    return false;
                }
            }
            return true;
        }

        private int scanNumber() {
            int from = cursor;
            int value = 0;
            while (cursor < tapeSize && isDigit(byteAt(cursor))) {
                value = value * 10 + byteAt(cursor) - '0';
                cursor++;
            }
            boolean fits = cursor - from <= LONGEST_NUMBER && !isLetter(byteAt(cursor));
            return fits ? NUMBERS + value : NO_SUCH_TOKEN;
        }

        /** Notes a FAULT at the token that is read; whatever is tried behind the first one finds no token. */
        private void refuse(int which) {
            if (fault == NO_FAULT) {
                fault = token == NO_SUCH_TOKEN ? NO_TOKEN : which;
                faultPlace = reading >= 0 && reading < places.length ? places[reading] : NONE;
            }
            token = NO_SUCH_TOKEN;
        }

        private void nextToken() {
            int i = reading + 1;
            if (fault == NO_FAULT && i >= 0 && i < tokenCount && i < tokens.length) {
                reading = i;
                token = tokens[i];
            }
        }

        private void readCounts(Act act) {
            if (act.ruleCount >= Act.MOST_RULES) {
                refuse(MISPLACED);
                return;
            }
            nextToken();
            int kind = takeKind();
            int percent = takeNumber(0, 100);
            act.addRule(new Rule(kind, percent, takeWhen()));
        }

        /** A line whose like may stand in a text but once. */
        private void readOnce(Act act) {
            int word = token;
            if (word < EMPTY || word > INTEREST_LINE || (linesSeen >> word & 1) != 0) {
                refuse(MISPLACED);
                return;
            }
            linesSeen |= 1 << word;
            nextToken();
            if (word == EMPTY) {
                act.emptyWhen = takeWhen();
                act.saysEmpty = true;
                return;
            }
            int which = word - WEEKS_LINE;
            int number = takeNumber(at(LEAST, which), at(MOST, which));
            if (which >= 0 && which < act.numbers.length) {
                act.numbers[which] = number;
            }
            take(';');
        }

        private void take(int wanted) {
            if (token == wanted) {
                nextToken();
            } else {
                refuse(MISPLACED);
            }
        }

        private int takeKind() {
            int kind = token - BASE;
            if (token < BASE || token > BONUS) {
                refuse(MISPLACED);
                return 0;
            }
            nextToken();
            return kind;
        }

        private int takeNumber(int least, int most) {
            int number = token - NUMBERS;
            if (number < 0) {
                refuse(MISPLACED);
                return least;
            }
            if (!within(number, least, most)) {
                refuse(BAD_NUMBER);
                return least;
            }
            nextToken();
            return number;
        }

        private int[] takeWhen() {
            take(WHEN);
            stepCount = 0;
            readLevel(0, 0);
            take(';');
            return Arrays.copyOf(steps, Math.max(0, Math.min(stepCount, steps.length)));
        }

        private void putStep(int step) {
            if (stepCount >= 0 && stepCount < steps.length) {
                steps[stepCount] = step;
                stepCount++;
            }
        }

        /** How loosely a token joins, from or (0) to * and / (4); NONE if it joins nothing. */
        private static int levelOf(int token) {
            switch (token) {
                case OR:
                    return 0;
                case AND:
                    return 1;
                case '<':
                case '>':
                case '=':
                    return ONE;
                case '+':
                case '-':
                    return 3;
                case '*':
                case '/':
                    return 4;
                default:
                    return NONE;
            }
        }

        /** Reads an e (level 0) or a part of one; nested counts the units ( e ) and the nots around it. */
        private void readLevel(int level, int nested) {
            if (level >= UNIT) {
                readUnit(nested);
                return;
            }
            if (level == ONE && token == NOT) {
                readNot(nested);
                return;
            }
            readLevel(level + 1, nested);
            int most = level == ONE ? 1 : MOST_BYTES;
            for (int i = 0; i < most && levelOf(token) == level; i++) {
                int sign = token;
                nextToken();
                readLevel(level + 1, nested);
                putStep(Step.JOINS + sign);
            }
        }

        private void readNot(int nested) {
            if (nested >= MOST_NESTED) {
                refuse(MISPLACED);
                return;
            }
            nextToken();
            readLevel(ONE, nested + 1);
            putStep(Step.JOINS + NOT);
        }

        private void readUnit(int nested) {
            if (units >= MOST_UNITS) {
                refuse(MISPLACED);
                return;
            }
            units++;
            if (token >= NUMBERS) {
                putStep(token - NUMBERS);
                nextToken();
            } else if (token == HABIT) {
                nextToken();
                readLeaf(Step.HABITS, BONUS);
            } else if (token == '(' && nested < MOST_NESTED) {
                nextToken();
                readLevel(0, nested + 1);
                take(')');
            } else {
                readLeaf(Step.LEAVES, TERM);
            }
        }

        /** A word from base to the last one that can stand here. */
        private void readLeaf(int steps, int lastWord) {
            if (token < BASE || token > lastWord) {
                refuse(MISPLACED);
                return;
            }
            putStep(steps + token - BASE);
            nextToken();
        }
    }

    /** One worker's weeks under one ACT; what is found of a WEEK is kept until the next opening. */
    private static final class Sheet {
        private static final int MOST_STACKED = 80;
        private static final long INTEREST_PARTS = 365000L;

        private Act act = new Act();
        private Fact first;
        private int place;
        private int term;
        /** What was paid: of each what a row of WEEKS. */
        private final int[] paid = new int[WHATS * WEEKS];
        /** Of each WEEK, NONE as long as it is not known: COUNTED, EMPTY; the MARKS go with COUNTED. */
        private final int[] counts = new int[WEEKS];
        private final int[] empties = new int[WEEKS];
        private final int[] marks = new int[WEEKS];
        private final int[] stack = new int[MOST_STACKED];

        /** Of the latest AVERAGE. */
        int weeksPicked;
        private int marksPicked;

        /** The HOLIDAYS that count with OWED above 0, by days; a CHAIN is a run of neighbours among them. */
        private final Fact[] listed = new Fact[MOST_FACTS];
        private int listedCount;
        private int firstLink;
        int lastLink;

        long payoutSum;
        int markBits;

        void open(Act newAct, Worker worker, boolean high) {
            act = newAct;
            first = worker.first;
            place = worker.place;
            term = worker.term;
            System.arraycopy(worker.paid, 0, paid, 0, WHATS * WEEKS);
            System.arraycopy(high ? worker.highs : worker.lows, 0, paid, BASE_PAY * WEEKS, WEEKS);
            Arrays.fill(counts, NONE);
            Arrays.fill(empties, NONE);
        }

        /** COUNTED of a WEEK. */
        int countIn(int week) {
            if (!isWeek(week)) {
                return 0;
            }
            if (counts[week] != NONE) {
                return counts[week];
            }
            int sum = 0;
            int bits = 0;
            int decided = 0;
            for (int i = 0; i < act.ruleCount && i < act.rules.length; i++) {
                Rule rule = act.rules[i];
                int amount = rule == null ? 0 : at(paid, rule.kind * WEEKS + week);
                // what is 0 counts 0 by any line, so no line needs to be asked
                if (rule != null && amount > 0 && (decided >> rule.kind & 1) == 0 && valueOf(rule.when, week) != 0) {
                    decided |= 1 << rule.kind;
                    sum += amount * rule.percent / 100;
                    bits |= rule.percent > 0 ? 1 << rule.kind : 0;
                }
            }
            counts[week] = sum;
            marks[week] = bits;
            return sum;
        }

        /** 1 if a WEEK is EMPTY, else 0. */
        int emptyIn(int week) {
            if (!isWeek(week)) {
                return 0;
            }
            if (empties[week] == NONE) {
                empties[week] = act.saysEmpty && valueOf(act.emptyWhen, week) != 0 ? 1 : 0;
            }
            return empties[week];
        }

        private int valueOf(int[] steps, int week) {
            int top = 0;
            for (int i = 0; i < steps.length; i++) {
                int step = steps[i];
                if (step < Step.JOINS) {
                    if (top < stack.length) {
                        stack[top] = step < Step.HABITS ? leaf(step, week) : habit(step - Step.HABITS, week);
                        top++;
                    }
                } else if (step == Step.JOINS + Reader.NOT) {
                    if (top > 0) {
                        stack[top - 1] = stack[top - 1] == 0 ? 1 : 0;
                    }
                } else if (top > 1) {
                    top--;
                    stack[top - 1] = join(step - Step.JOINS, stack[top - 1], stack[top]);
                }
            }
            return top > 0 ? stack[0] : 0;
        }

        private int leaf(int step, int week) {
            if (step < Step.LEAVES) {
                return step;
            }
            switch (step) {
                case Step.TOTAL:
                    int total = 0;
                    for (int i = week; i >= 0 && i < KINDS * WEEKS && i < paid.length; i += WEEKS) {
                        total += paid[i];
                    }
                    return total;
                case Step.WEEK:
                    return week;
                case Step.PLACE:
                    return place;
                case Step.TERM:
                    return term;
                default:
                    int i = (step - Step.LEAVES) * WEEKS + week;
                    return i >= 0 && i < paid.length ? paid[i] : 0;
            }
        }

        private int habit(int kind, int week) {
            int often = 0;
            for (int ahead = week < HABIT_WEEKS ? 0 : week - HABIT_WEEKS; ahead < week; ahead++) {
                int i = kind * WEEKS + ahead;
                if (i >= 0 && i < paid.length && paid[i] > 0) {
                    often++;
                }
            }
            return often;
        }

        private static int join(int token, int left, int right) {
            switch (token) {
                case Reader.OR:
                    return left != 0 || right != 0 ? 1 : 0;
                case Reader.AND:
                    return left != 0 && right != 0 ? 1 : 0;
                case '<':
                    return left < right ? 1 : 0;
                case '>':
                    return left > right ? 1 : 0;
                case '=':
                    return left == right ? 1 : 0;
                case '+':
                    return left + right;
                case '-':
                    return left - right;
                case '*':
                    return left * right;
                default:
                    return right == 0 ? 0 : left / right;
            }
        }

        /** AVERAGE for a HOLIDAY from a day on; weeksPicked are the WEEKS in it. */
        int averageFor(int day) {
            int sum = 0;
            int top = act.number(Act.WEEKS_PICKED);
            int newest = day / DAYS_A_WEEK - 1;
            int oldest = Math.max(0, newest + 1 - act.number(Act.BACK));
            weeksPicked = 0;
            marksPicked = 0;
            for (int week = newest; week >= oldest && weeksPicked < top; week--) {
                if (emptyIn(week) == 0) {
                    sum += countIn(week);
                    marksPicked |= at(marks, week);
                    weeksPicked++;
                }
            }
            return weeksPicked > 0 ? sum / weeksPicked : 0;
        }

        int owedFor(Fact rest, int k) {
            for (Fact fact = first; fact != null; fact = fact.next) {
                if (fact.sort == BARRED && fact.countsAt(k) && within(rest.from, fact.from, fact.to)) {
                    return 0;
                }
            }
            int days = act.number(Act.DAYS);
            int whole = days > 0 ? averageFor(rest.from) * rest.to / days : 0;
            return Math.max(0, whole - rest.many);
        }

        void listHolidays(int k) {
            listedCount = 0;
            for (Fact fact = first; fact != null; fact = fact.next) {
                int owedNow = fact.sort == HOLIDAY && fact.countsAt(k) ? owedFor(fact, k) : 0;
                if (owedNow > 0) {
                    fact.owedNow = owedNow;
                    fact.marksNow = marksPicked;
                    fact.claimedOn = NONE;
                    insert(fact);
                }
            }
        }

        /** Behind all of the same day, for those have lower numbers. */
        private void insert(Fact rest) {
            if (listedCount < 0 || listedCount >= listed.length) {
                return;
            }
            int i = listedCount;
            for (; i > 0; i--) {
                Fact ahead = listed[i - 1];
                if (ahead == null || ahead.from <= rest.from) {
                    break;
                }
                listed[i] = ahead;
            }
            listed[i] = rest;
            listedCount++;
        }

        Fact listedAt(int i) {
            return i >= 0 && i < listedCount && i < listed.length ? listed[i] : null;
        }

        /** Sets firstLink and lastLink to the CHAIN of a CLAIM on a day. */
        void findChain(int day) {
            lastLink = NONE;
            for (int i = 0; i < listedCount; i++) {
                Fact rest = listedAt(i);
                if (rest != null && rest.from <= day) {
                    lastLink = i;
                }
            }
            firstLink = lastLink + 1;
            int behind = day;
            int most = act.number(Act.LATE);
            for (int i = lastLink; i >= 0; i--) {
                Fact rest = listedAt(i);
                if (rest == null || behind - rest.from > most || day - rest.from > act.number(Act.STOP)) {
                    break;
                }
                firstLink = i;
                behind = rest.from;
                most = act.number(Act.CHAIN);
            }
        }

        int links() {
            return lastLink - firstLink + 1;
        }

        private long withInterest(Fact rest, int day) {
            return rest.owedNow + (long) rest.owedNow * act.number(Act.INTEREST) * (day - rest.from) / INTEREST_PARTS;
        }

        /** DUE of a CLAIM on a day, of the CHAIN that findChain has set. */
        long dueOn(int day) {
            long sum = 0;
            for (int i = firstLink; i <= lastLink; i++) {
                Fact rest = listedAt(i);
                if (rest != null) {
                    sum += withInterest(rest, day);
                }
            }
            return sum;
        }

        /** PAYOUT and MARKS, of the HOLIDAYS that listHolidays has listed. */
        void joinClaims(int k) {
            for (Fact fact = first; fact != null; fact = fact.next) {
                if (fact.sort == CLAIM && fact.countsAt(k)) {
                    findChain(fact.from);
                    noteClaim(fact.from);
                }
            }
            payoutSum = 0;
            markBits = 0;
            for (int i = 0; i < listedCount; i++) {
                Fact rest = listedAt(i);
                if (rest != null && rest.claimedOn != NONE) {
                    payoutSum += withInterest(rest, rest.claimedOn);
                    markBits |= rest.marksNow;
                }
            }
        }

        private void noteClaim(int day) {
            for (int i = firstLink; i <= lastLink; i++) {
                Fact rest = listedAt(i);
                if (rest != null && (rest.claimedOn == NONE || day < rest.claimedOn)) {
                    rest.claimedOn = day;
                }
            }
        }
    }
}
