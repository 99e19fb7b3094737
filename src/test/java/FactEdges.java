import static java.lang.Integer.MAX_VALUE;
import static java.lang.Integer.MIN_VALUE;

import java.util.function.IntToLongFunction;
import java.util.function.ToIntFunction;

/** Terms 2 and promises 6 to 16: every sentence quoted, with calls at its edge and beside it. */
final class FactEdges {
    private static final String ALL_COUNT = "counts base 100 when 1;counts overtime 100 when 1;counts sales 100 when 1;"
            + "counts travel 100 when 1;counts bonus 100 when 1;";

    private FactEdges() {
    }

    static void run() {
        weeksAndDays();
        workers();
        facts();
        asKnown();
        pays();
        losts();
        banks();
        holidays();
        barred();
        claims();
        spans();
        quarrels();
        quarrelsOfLikeOnes();
        leftOut();
        lowsAndHighs();
        workerRefused();
        payRefused();
        lostRefused();
        bankRefused();
        holidayRefused();
        settleRefused();
        claimRefused();
        untell();
        later();
        laterRefused();
        spanAnswers();
        quarrelAnswers();
    }

    private static RestPay withWorkers(int n) {
        RestPay x = new RestPay();
        for (int i = 0; i < n; i++) {
            x.worker(0, false);
        }
        return x;
    }

    private static int[] around(int least, int most) {
        return new int[] {MIN_VALUE, -1, least - 1, least, least + 1, most - 1, most, most + 1, MAX_VALUE};
    }

    private static boolean in(int n, int least, int most) {
        return n >= least && n <= most;
    }

    // ---- Terms 2

    private static void weeksAndDays() {
        Check.sentence("Terms 2", "WEEKS are 0 .. 103, days 0 .. 727 (7 to a WEEK).");
        RestPay x = withWorkers(1);
        int facts = 0;
        for (int week : around(0, 103)) {
            boolean can = in(week, 0, 103);
            Check.same("pay in " + week, x.pay(0, week, 0, 1), can ? facts++ : -1);
            Check.same("lost in " + week, x.lost(0, week), can ? facts++ : -1);
            Check.same("span of " + week, x.span(0, week, false, 0), can ? 0 : -1);
            Check.same("counted in " + week, x.counted(0, 0, week, false, 0), can ? 0 : -1);
            Check.same("empty in " + week, x.empty(0, 0, week, false, 0), can ? 0 : -1);
        }
        for (int day : around(0, 727)) {
            boolean can = in(day, 0, 727);
            Check.same("holiday on " + day, x.holiday(0, day, 1, 0), can ? facts++ : -1);
            Check.same("settled on " + day, x.settle(0, day, day), can ? facts++ : -1);
        }
        Check.same("facts", x.about(1), facts);
        RestPay y = withWorkers(1);
        Check.act(y, 0, ALL_COUNT + "weeks 1;", 6);
        for (int week : new int[] {0, 1, 2, 101, 102, 103}) {
            y.pay(0, week, 0, 10 + week);
        }
        int[] days = {0, 6, 7, 13, 14, 20, 21, 720, 721, 727};
        int[] due = {0, 0, 10, 10, 11, 11, 12, 10 + 101, 10 + 102, 10 + 102};
        for (int i = 0; i < days.length; i++) {
            y.holiday(0, days[i], 1, 0);
            Check.same("average ahead of day " + days[i], y.average(0, 6 + i, false, 0), due[i]);
        }
    }

    private static void workers() {
        Check.sentence("Terms 2", "WORKERS, 10 at most, have a place (0 .. 9) and are term folk or not.");
        RestPay x = new RestPay();
        for (int i = 0; i < 10; i++) {
            Check.same("worker " + i, x.worker(i, i % 3 == 0), i);
        }
        Check.same("an eleventh", x.worker(0, true), -1);
        Check.same("none such", x.pay(10, 0, 0, 1), -1);
        for (int i = 0; i < 10; i++) {
            Check.act(x, 0, "empty when place = " + i + " and term = " + (i % 3 == 0 ? 1 : 0) + ";", 1);
            Check.same("place and term of " + i, x.empty(0, i, 0, false, 0), 1);
        }
    }

    private static void facts() {
        Check.sentence("Terms 2", "FACTS, 250 at most, are TOLD at a TIME (0 at first, goes on), UNTOLD at a later one or the same;");
        RestPay x = withWorkers(2);
        Check.same("0 at first", x.about(2), 0);
        for (int i = 0; i < 249; i++) {
            Check.same("fact " + i, x.pay(i % 2, 0, i % 6, 1), i);
        }
        Check.same("untold at the same time", x.untell(0), true);
        Check.same("the time goes on", x.later(3), 3);
        Check.same("untold at a later one", x.untell(1), true);
        Check.same("fact 249", x.claim(1, 0), 249);
        Check.refused(x, "a 251st", () -> x.claim(1, 0), -1);
        Check.refused(x, "a 251st of another sort", () -> x.pay(0, 0, 0, 0), -1);
        Check.same("untold ones count towards them", x.about(1), 250);
        Check.same("untold at the same time", x.untell(249), true);
    }

    /** Something TOLD at 5 and UNTOLD at 9: the answers from TIME 3 to 11. */
    private static void known(String what, IntToLongFunction at, long without, long with) {
        for (int k = 3; k <= 11; k++) {
            Check.same(what + " at " + k, at.applyAsLong(k), k >= 5 && k < 9 ? with : without);
        }
        Check.same(what + " at the least", at.applyAsLong(MIN_VALUE), without);
        Check.same(what + " at -1", at.applyAsLong(-1), without);
        Check.same(what + " at the greatest", at.applyAsLong(MAX_VALUE), without);
    }

    private static void asKnown() {
        Check.sentence("Terms 2", "AS KNOWN at k those count that were TOLD at k or before, not UNTOLD at k or before:");
        RestPay x = withWorkers(6);
        Check.act(x, 0, "counts base 100 when 1;weeks 1;", 2);
        // worker 0: a base; 1: a lost week; 2: a bank of a lost week; 3: a holiday; 4: barred; 5: a claim
        x.lost(2, 0);
        for (int worker = 3; worker < 6; worker++) {
            x.pay(worker, 0, 0, 500);
        }
        int rest = x.holiday(4, 7, 5, 0);
        int restOf5 = x.holiday(5, 7, 5, 0);
        int claim = x.claim(3, 7);
        x.claim(4, 7);
        x.later(5);
        int[] told = {x.pay(0, 0, 0, 70), x.lost(1, 0), x.bank(2, 0, 0, 33), x.holiday(3, 7, 5, 0), x.settle(4, 7, 7), x.claim(5, 7)};
        x.later(4);
        for (int fact : told) {
            Check.same("untold", x.untell(fact), true);
        }
        known("pay", k -> x.span(0, 0, false, k), 0, 70);
        known("lost", k -> x.span(1, 0, true, k), 0, 9999);
        for (int k = 3; k <= 11; k++) {
            boolean counts = k >= 5 && k < 9;
            Check.same("bank at " + k, x.span(2, 0, true, k), counts ? 33 : 9999);
            Check.same("holiday at " + k, x.chain(0, claim, false, k), counts ? 1 : 0);
            Check.same("barred at " + k, x.owed(0, rest, false, k), counts ? 0 : 500);
            Check.same("payout of the barred at " + k, x.payout(0, 4, false, k), counts ? 0 : 500);
            Check.same("claim at " + k, x.payout(0, 5, false, k), counts ? 500 : 0);
            Check.same("owed without a claim at " + k, x.owed(0, restOf5, false, k), 500);
        }
        RestPay y = withWorkers(1);
        y.later(5);
        y.untell(y.pay(0, 0, 0, 70));
        for (int k = 4; k <= 6; k++) {
            Check.same("told and untold at 5, at " + k, y.span(0, 0, false, k), 0);
        }
    }

    private static void pays() {
        Check.sentence("Terms 2", "PAY: of a worker and WEEK, a KIND (0 .. 4; 0 .. 9999) or hours (5; 0 .. 99): the last TOLD counts; 0 without.");
        for (int what = 0; what <= 5; what++) {
            int most = what == 5 ? 99 : 9999;
            RestPay x = withWorkers(1);
            int facts = 0;
            for (int many : around(0, most)) {
                Check.same(many + " of " + what, x.pay(0, 0, what, many), in(many, 0, most) ? facts++ : -1);
            }
            Check.same("100 of " + what, x.pay(0, 0, what, 100), what == 5 ? -1 : facts);
        }
        for (int what : new int[] {-1, 6, MAX_VALUE, MIN_VALUE}) {
            Check.same("what " + what, withWorkers(1).pay(0, 0, what, 1), -1);
        }
        RestPay x = withWorkers(2);
        Check.act(x, 0, ALL_COUNT, 5);
        Check.same("0 without", x.counted(0, 0, 0, false, 0), 0);
        for (int kind = 0; kind < 5; kind++) {
            x.pay(0, 0, kind, 5);
            x.pay(0, 0, kind, 9);
            x.pay(0, 0, kind, 7);
            Check.same("the last told, not the greatest", x.counted(0, 0, 0, false, 0), 7 * (kind + 1));
        }
        x.untell(2);
        Check.same("the last told of those that count", x.counted(0, 0, 0, false, 0), 37);
        x.untell(0);
        Check.same("the first does not count any more", x.counted(0, 0, 0, false, 0), 37);
        x.untell(1);
        Check.same("none of base", x.counted(0, 0, 0, false, 0), 28);
        Check.same("another worker", x.counted(0, 1, 0, false, 0), 0);
        Check.same("another week", x.counted(0, 0, 1, false, 0), 0);
        x.pay(0, 0, 1, 0);
        Check.same("a 0 that was told last", x.counted(0, 0, 0, false, 0), 21);
        Check.act(x, 0, "empty when hours = 99;", 1);
        x.pay(0, 3, 5, 98);
        x.pay(0, 3, 5, 99);
        Check.same("hours", x.empty(0, 0, 3, false, 0), 1);
        Check.same("no hours", x.empty(0, 0, 2, false, 0), 0);
    }

    private static void losts() {
        Check.sentence("Terms 2", "LOST: of a worker and WEEK: its base lies in a SPAN then, other KINDS and hours are 0 (whatever PAY says).");
        RestPay x = withWorkers(2);
        Check.act(x, 0, ALL_COUNT + "empty when hours + overtime + sales + travel + bonus;", 6);
        for (int what = 0; what < 6; what++) {
            x.pay(0, 1, what, 50);
            x.pay(0, 2, what, 50);
            x.pay(1, 1, what, 50);
        }
        x.lost(0, 1);
        for (int what = 0; what < 6; what++) {
            x.pay(0, 1, what, 60);
        }
        Check.same("the least", x.counted(0, 0, 1, false, 0), 0);
        Check.same("the greatest", x.counted(0, 0, 1, true, 0), 9999);
        Check.same("the others are 0", x.empty(0, 0, 1, true, 0), 0);
        Check.same("not another week", x.counted(0, 0, 2, true, 0), 250);
        Check.same("with its others", x.empty(0, 0, 2, true, 0), 1);
        Check.same("not another worker", x.counted(0, 1, 1, true, 0), 250);
        x.bank(0, 1, 1, 60);
        Check.same("its base alone is in the total", x.counted(0, 0, 1, false, 0), 60);
        x.lost(0, 1);
        x.untell(18);
        Check.same("lost twice, untold once", x.counted(0, 0, 1, false, 0), 60);
        x.untell(26);
        Check.same("untold twice: what pay says", x.counted(0, 0, 1, false, 0), 300);
        Check.same("and hours", x.empty(0, 0, 1, false, 0), 1);
        for (int week : new int[] {0, 103}) {
            for (int what = 0; what < 6; what++) {
                x.pay(1, week, what, 50);
            }
            x.lost(1, week);
            Check.same("the least of " + week, x.counted(0, 1, week, false, 0), 0);
            Check.same("the greatest of " + week, x.counted(0, 1, week, true, 0), 9999);
            Check.same("the others of " + week + " are 0", x.empty(0, 1, week, true, 0), 0);
        }
        Check.same("week 102", x.span(1, 102, true, 0), 0);
    }

    private static void banks() {
        Check.sentence("Terms 2", "BANK, 10 at most for a worker: the totals of WEEKS a to b (both) together (0 .. 999999).");
        RestPay x = withWorkers(2);
        int facts = 0;
        for (int total : around(0, 999999)) {
            Check.same("total " + total, x.bank(0, 0, 0, total), in(total, 0, 999999) ? facts++ : -1);
        }
        for (int i = facts; i < 10; i++) {
            Check.same("bank " + i, x.bank(0, 0, 103, 0), i);
        }
        Check.same("an eleventh", x.bank(0, 0, 103, 0), -1);
        for (int i = 10; i < 20; i++) {
            Check.same("ten of another worker", x.bank(1, 0, 103, 0), i);
        }
        Check.same("an eleventh", x.bank(1, 0, 103, 0), -1);
        // all KINDS of WEEKS 2 to 4, both among them, and not of 1 and 5; hours are no part
        RestPay y = withWorkers(2);
        for (int week = 1; week <= 5; week++) {
            for (int what = 0; what < 6; what++) {
                y.pay(0, week, what, week == 3 ? 0 : 10 + what);
            }
        }
        y.lost(0, 3);
        y.bank(0, 2, 4, 2 * (10 + 11 + 12 + 13 + 14) + 77);
        Check.same("least", y.span(0, 3, false, 0), 77);
        Check.same("greatest", y.span(0, 3, true, 0), 77);
        Check.same("no quarrel", y.quarrel(0, 0), 0);
        y.bank(0, 0, 103, 4 * 60 + 77);
        Check.same("no quarrel of the whole", y.quarrel(0, 0), 0);
        y.pay(0, 103, 4, 1);
        Check.same("a quarrel by the last week", y.quarrel(0, 0), 1);
        y.pay(0, 103, 4, 0);
        y.pay(0, 0, 1, 1);
        Check.same("a quarrel by the first week", y.quarrel(0, 0), 1);
        Check.same("not of another worker", y.quarrel(1, 0), 0);
    }

    private static void holidays() {
        Check.sentence("Terms 2", "HOLIDAY: of a worker, from a day on, so many days (1 .. 20), PAID (0 .. 99999).");
        RestPay x = withWorkers(1);
        int facts = 0;
        for (int days : around(1, 20)) {
            Check.same("days " + days, x.holiday(0, 7, days, 0), in(days, 1, 20) ? facts++ : -1);
        }
        for (int paid : around(0, 99999)) {
            Check.same("paid " + paid, x.holiday(0, 7, 1, paid), in(paid, 0, 99999) ? facts++ : -1);
        }
        x.pay(0, 0, 0, 9999);
        x.pay(0, 0, 1, 9999);
        x.pay(0, 0, 2, 9999);
        Check.act(x, 0, ALL_COUNT + "days 1;weeks 1;", 7);
        int[] due = {29997, 59994, 569943, 599940, 29997, 29996, 0, 0};
        for (int i = 0; i < due.length; i++) {
            Check.same("owed for " + i, x.owed(0, i, false, 0), due[i]);
        }
        x.holiday(0, 7, 20, 99999);
        x.holiday(0, 7, 20, 99998);
        Check.same("all days, all paid", x.owed(0, facts + 3, false, 0), 599940 - 99999);
        Check.same("all days, less paid", x.owed(0, facts + 4, false, 0), 599940 - 99998);
    }

    private static void barred() {
        Check.sentence("Terms 2", "BARRED: a worker's HOLIDAYS from a day to another one (both) are.");
        RestPay x = withWorkers(2);
        Check.act(x, 0, ALL_COUNT, 5);
        x.pay(0, 0, 0, 100);
        x.pay(1, 0, 0, 100);
        for (int day = 9; day <= 14; day++) {
            x.holiday(0, day, 5, 0);
            x.holiday(1, day, 5, 0);
        }
        int settled = x.settle(0, 10, 12);
        for (int day = 9; day <= 14; day++) {
            int owed = 100 / (day / 7);
            boolean is = day >= 10 && day <= 12;
            Check.same("day " + day, x.owed(0, 2 + 2 * (day - 9), false, 0), is ? 0 : owed);
            Check.same("another worker's day " + day, x.owed(0, 3 + 2 * (day - 9), false, 0), owed);
        }
        x.untell(settled);
        x.settle(0, 11, 11);
        Check.same("one day alone: the day ahead", x.owed(0, 4, false, 0), 100);
        Check.same("one day alone", x.owed(0, 6, false, 0), 0);
        Check.same("one day alone: the day behind", x.owed(0, 8, false, 0), 100);
        x.settle(1, 0, 727);
        Check.same("all days", x.owed(0, 3, false, 0), 0);
        Check.same("all days", x.owed(0, 13, false, 0), 0);
    }

    private static void claims() {
        Check.sentence("Terms 2", "CLAIM: of a worker, on a day (0 .. 999).");
        RestPay x = withWorkers(2);
        int facts = 0;
        for (int day : around(0, 999)) {
            Check.same("day " + day, x.claim(0, day), in(day, 0, 999) ? facts++ : -1);
        }
        Check.act(x, 0, "counts base 100 when 1;late 272;", 2);
        x.pay(0, 102, 0, 1200);
        x.holiday(0, 727, 5, 0);
        Check.same("on day 999", x.chain(0, 3, false, 0), 1);
        Check.same("on day 0", x.chain(0, 0, false, 0), 0);
        x.claim(1, 800);
        Check.same("of another worker", x.chain(0, facts + 2, false, 0), 0);
    }

    private static void span(RestPay x, int week, int least, int most) {
        Check.same("least of " + week, x.span(0, week, false, 0), least);
        Check.same("greatest of " + week, x.span(0, week, true, 0), most);
    }

    private static void spans() {
        Check.sentence("Terms 2", "SPAN of a LOST WEEK: of all ways in which each LOST WEEK's base is 0 .. 9999 and all BANK hold:"
                + " the least and the greatest base.");
        int[][] ofOne = {{0, 0, 0, 0}, {1, 1, 1, 0}, {9998, 9998, 9998, 0}, {9999, 9999, 9999, 0}, {10000, 0, 9999, 1}};
        for (int[] one : ofOne) {
            RestPay x = withWorkers(1);
            x.lost(0, 50);
            span(x, 50, 0, 9999);
            x.bank(0, 50, 50, one[0]);
            span(x, 50, one[1], one[2]);
            Check.same("quarrel of " + one[0], x.quarrel(0, 0), one[3]);
        }
        int[][] ofTwo = {{0, 0, 0, 0}, {1, 0, 1, 0}, {9998, 0, 9998, 0}, {9999, 0, 9999, 0}, {10000, 1, 9999, 0},
            {19997, 9998, 9999, 0}, {19998, 9999, 9999, 0}, {19999, 0, 9999, 1}};
        for (int[] two : ofTwo) {
            RestPay x = withWorkers(1);
            x.lost(0, 0);
            x.lost(0, 103);
            x.bank(0, 0, 103, two[0]);
            span(x, 0, two[1], two[2]);
            span(x, 103, two[1], two[2]);
            Check.same("quarrel of " + two[0], x.quarrel(0, 0), two[3]);
        }
        // what was paid beside the lost week: a total below it can't be
        int[][] besides = {{99, 0, 9999, 1}, {100, 0, 0, 0}, {101, 1, 1, 0}};
        for (int[] beside : besides) {
            RestPay x = withWorkers(1);
            x.pay(0, 1, 4, 100);
            x.lost(0, 2);
            x.bank(0, 1, 2, beside[0]);
            span(x, 2, beside[1], beside[2]);
            Check.same("quarrel of " + beside[0], x.quarrel(0, 0), beside[3]);
        }
        // banks that overlap, and one lost week outside them all
        RestPay x = withWorkers(1);
        for (int week = 0; week < 5; week++) {
            x.lost(0, week);
        }
        x.bank(0, 0, 1, 15000);
        x.bank(0, 1, 2, 6000);
        span(x, 0, 9000, 9999);
        span(x, 1, 5001, 6000);
        span(x, 2, 0, 999);
        span(x, 3, 0, 9999);
        x.bank(0, 2, 3, 10998);
        span(x, 2, 999, 999);
        span(x, 3, 9999, 9999);
        span(x, 1, 5001, 5001);
        span(x, 0, 9999, 9999);
        span(x, 4, 0, 9999);
        Check.same("no quarrel", x.quarrel(0, 0), 0);
        x.bank(0, 0, 4, 30000);
        span(x, 4, 30000 - 9999 - 5001 - 10998, 4002);
        tenBanks();
    }

    /** Each BANK tells a WEEK only by the next one: the last one told settles all, from either end. */
    private static void tenBanks() {
        for (int end = 0; end < 2; end++) {
            RestPay x = withWorkers(1);
            for (int week = 0; week < 10; week++) {
                x.lost(0, week);
            }
            for (int week = 0; week < 9; week++) {
                x.bank(0, week, week + 1, 1000 + week);
            }
            for (int week = 0; week < 10; week++) {
                // week 0 lies in 0 .. 1000, each next one goes the other way
                span(x, week, week / 2, 1000 + week / 2);
            }
            x.bank(0, 9 * end, 9 * end, 600);
            Check.same("no quarrel", x.quarrel(0, 0), 0);
            int[] due = new int[10];
            due[0] = end == 0 ? 600 : 404;
            for (int week = 1; week < 10; week++) {
                due[week] = 1000 + week - 1 - due[week - 1];
            }
            for (int week = 0; week < 10; week++) {
                span(x, week, due[week], due[week]);
            }
        }
        // twenty ends, all in WEEKS of their own
        RestPay x = withWorkers(1);
        for (int b = 0; b < 10; b++) {
            x.lost(0, b % 2 == 0 ? b : 103 - b);
            x.bank(0, b, 103 - b, 100 * (10 - b) + b);
        }
        Check.same("ten banks within one another", x.quarrel(0, 0), 0);
        for (int b = 0; b < 10; b++) {
            span(x, b % 2 == 0 ? b : 103 - b, b == 9 ? 109 : 99, b == 9 ? 109 : 99);
        }
        RestPay y = withWorkers(1);
        for (int b = 0; b < 10; b++) {
            y.lost(0, 10 * b + 3);
            y.pay(0, 10 * b + 4, b % 5, 1000 + b);
            y.bank(0, 10 * b + 2, 10 * b + 6, 2000 + b + b);
        }
        for (int b = 0; b < 10; b++) {
            span(y, 10 * b + 3, 1000 + b, 1000 + b);
        }
        Check.same("ten banks beside one another", y.quarrel(0, 0), 0);
    }

    /** Of each BANK a WEEK of its own that is not LOST: those with a total of 1 can't hold. */
    private static RestPay wrongBanks(int banks, int wrongBits) {
        RestPay x = withWorkers(1);
        for (int b = 0; b < banks; b++) {
            x.bank(0, b, b, wrongBits >> b & 1);
        }
        return x;
    }

    private static void quarrels() {
        Check.sentence("Terms 2", "QUARREL of a worker: the fewest BANK (of those that count, as bits in the order TOLD)"
                + " without which there is such a way, 3 at most;");
        Check.same("no banks", wrongBanks(0, 0).quarrel(0, 0), 0);
        for (int bits : new int[] {0, 1, 2, 512, 3, 513, 7, 641, 896, 21}) {
            Check.same("wrong ones " + bits, wrongBanks(10, bits).quarrel(0, 0), bits);
        }
        for (int bits : new int[] {15, 960, 1023, 27}) {
            Check.same("four and more wrong ones " + bits, wrongBanks(10, bits).quarrel(0, 0), -1);
        }
        RestPay x = wrongBanks(5, 1 + 2 + 8 + 16);
        x.later(1);
        x.untell(1);
        Check.same("four are wrong", x.quarrel(0, 0), -1);
        Check.same("three of those that count", x.quarrel(0, 1), 1 + 4 + 8);
        x.untell(2);
        Check.same("the numbers of those that count", x.quarrel(0, 1), 1 + 2 + 4);
        // the fewest: one that quarrels with three others goes, though it was told last
        RestPay y = withWorkers(1);
        y.lost(0, 0);
        y.lost(0, 1);
        y.lost(0, 2);
        y.bank(0, 0, 0, 10);
        y.bank(0, 1, 1, 10);
        y.bank(0, 2, 2, 10);
        y.bank(0, 0, 2, 31);
        Check.same("one does: the least of four", y.quarrel(0, 0), 1);
        y.bank(0, 0, 2, 30);
        Check.same("one does: the fourth", y.quarrel(0, 0), 8);
        y.bank(0, 0, 2, 31);
        Check.same("one does not: the first and the fifth", y.quarrel(0, 0), 17);
    }

    private static void quarrelsOfLikeOnes() {
        Check.sentence("Terms 2", "of like ones the least number;");
        RestPay x = withWorkers(1);
        x.lost(0, 0);
        for (int i = 0; i < 4; i++) {
            x.bank(0, 0, 0, 10 * (i + 1));
        }
        Check.same("any three of four: the first three", x.quarrel(0, 0), 7);
        span(x, 0, 40, 40);
        x.bank(0, 0, 0, 10);
        Check.same("those beside 10", x.quarrel(0, 0), 14);
        span(x, 0, 10, 10);
        x.bank(0, 0, 0, 40);
        Check.same("three do not do", x.quarrel(0, 0), -1);
        x.later(1);
        x.untell(2);
        Check.same("30 and the tens, not 30 and the forties", x.quarrel(0, 1), 1 + 2 + 8);
        Check.same("the forties stay", x.span(0, 0, false, 1), 40);
        RestPay y = withWorkers(1);
        y.lost(0, 0);
        y.bank(0, 0, 0, 5);
        y.bank(0, 0, 0, 6);
        Check.same("the first of two", y.quarrel(0, 0), 1);
        span(y, 0, 6, 6);
    }

    private static void leftOut() {
        Check.sentence("Terms 2", "they are left out then; if 3 do not do, all are left out.");
        RestPay x = wrongBanks(3, 7);
        x.lost(0, 50);
        x.bank(0, 50, 50, 123);
        Check.same("three", x.quarrel(0, 0), 7);
        span(x, 50, 123, 123);
        x.bank(0, 60, 60, 1);
        Check.same("four", x.quarrel(0, 0), -1);
        span(x, 50, 0, 9999);
        x.later(1);
        x.untell(0);
        Check.same("three again", x.quarrel(0, 1), 1 + 2 + 8);
        Check.same("what is not left out holds", x.span(0, 50, true, 1), 123);
        Check.same("all are left out at 0", x.span(0, 50, true, 0), 9999);
    }

    private static void lowsAndHighs() {
        Check.sentence("Terms 2", "BY LOWS (high false) each LOST WEEK's base is the least of its SPAN, BY HIGHS the greatest.");
        RestPay x = withWorkers(1);
        x.lost(0, 0);
        x.lost(0, 1);
        x.bank(0, 0, 1, 10002);
        x.pay(0, 2, 0, 77);
        x.holiday(0, 14, 5, 0);
        Check.act(x, 0, "counts base 100 when 1;empty when week = 1 and base < 4 or habit base = 0 and week = 2;", 2);
        Check.same("low", x.counted(0, 0, 0, false, 0), 3);
        Check.same("high", x.counted(0, 0, 0, true, 0), 9999);
        Check.same("low and high of what is not lost", x.counted(0, 0, 2, false, 0), x.counted(0, 0, 2, true, 0));
        Check.same("low: 3 is empty", x.empty(0, 0, 1, false, 0), 1);
        Check.same("high: 9999 is not", x.empty(0, 0, 1, true, 0), 0);
        Check.same("low: one week", x.average(0, 4, false, 0), 3);
        Check.same("high: each week the greatest", x.average(0, 4, true, 0), 9999);
    }

    // ---- promises 6 to 16

    private static void workerRefused() {
        Check.sentence("Promise 6", "A worker: a number; NONE, doing nothing, if the place can't be, or there are 10.");
        RestPay x = new RestPay();
        int workers = 0;
        for (int place : around(0, 9)) {
            if (in(place, 0, 9)) {
                Check.same("place " + place, x.worker(place, true), workers++);
            } else {
                Check.refused(x, "place " + place, () -> x.worker(place, true), -1);
            }
        }
        for (; workers < 10; workers++) {
            Check.same("worker " + workers, x.worker(0, false), workers);
        }
        Check.refused(x, "an eleventh", () -> x.worker(0, false), -1);
        Check.refused(x, "an eleventh of no place", () -> x.worker(10, false), -1);
        Check.same("the tenth is there", x.lost(9, 0), 0);
        Check.same("an eleventh is not", x.lost(10, 0), -1);
    }

    private static void payRefused() {
        Check.sentence("Promise 7", "PAY: the FACT's number; NONE, doing nothing, if it can't be, or there are 250.");
        RestPay none = new RestPay();
        Check.refused(none, "no worker yet", () -> none.pay(0, 0, 0, 1), -1);
        int[][] wrong = {{-1, 0, 0, 1}, {2, 0, 0, 1}, {MAX_VALUE, 0, 0, 1}, {MIN_VALUE, 0, 0, 1}, {0, -1, 0, 1}, {0, 104, 0, 1},
            {0, MAX_VALUE, 0, 1}, {0, 0, -1, 1}, {0, 0, 6, 1}, {0, 0, MAX_VALUE, 1}, {0, 0, 0, -1}, {0, 0, 4, 10000}, {0, 0, 5, 100},
            {0, 0, 5, -1}, {0, 0, 0, MIN_VALUE}, {0, 0, 5, MAX_VALUE}};
        RestPay x = withWorkers(2);
        Check.same("pay", x.pay(1, 103, 0, 8), 0);
        for (int[] w : wrong) {
            Check.refused(x, "pay", () -> x.pay(w[0], w[1], w[2], w[3]), -1);
        }
        Check.same("pay", x.pay(0, 0, 5, 99), 1);
        Check.same("nothing told by the wrong ones", x.span(0, 0, true, 0), 0);
        fills(y -> y.pay(0, 0, 0, 7));
    }

    /** An office with 249 FACTS: the call gives the 250th, and then there is none. */
    private static void fills(ToIntFunction<RestPay> call) {
        RestPay x = withWorkers(1);
        for (int i = 0; i < 249; i++) {
            x.settle(0, 700, 700);
        }
        Check.same("the 250th", call.applyAsInt(x), 249);
        Check.refused(x, "a 251st", () -> call.applyAsInt(x), -1);
        x.untell(249);
        Check.refused(x, "a 251st behind an untold one", () -> call.applyAsInt(x), -1);
    }

    private static void lostRefused() {
        Check.sentence("Promise 8", "LOST: likewise.");
        RestPay x = withWorkers(2);
        int[][] wrong = {{-1, 0}, {2, 0}, {10, 0}, {MAX_VALUE, 0}, {0, -1}, {0, 104}, {0, MAX_VALUE}, {1, MIN_VALUE}};
        for (int[] w : wrong) {
            Check.refused(x, "lost", () -> x.lost(w[0], w[1]), -1);
        }
        Check.same("lost", x.lost(0, 0), 0);
        Check.same("lost", x.lost(1, 103), 1);
        Check.same("lost a second time", x.lost(1, 103), 2);
        fills(y -> y.lost(0, 3));
    }

    private static void bankRefused() {
        Check.sentence("Promise 9", "BANK: likewise (b not below a; UNTOLD ones count towards the ten).");
        RestPay x = withWorkers(2);
        int[][] wrong = {{-1, 0, 0, 1}, {2, 0, 0, 1}, {0, -1, 0, 1}, {0, 0, 104, 1}, {0, 104, 104, 1}, {0, 1, 0, 1},
            {0, 103, 102, 1}, {0, 0, -1, 1}, {0, 0, 0, -1}, {0, 0, 0, 1000000}, {0, 0, MAX_VALUE, 1}, {0, MIN_VALUE, 0, 1},
            {0, 0, 0, MAX_VALUE}};
        for (int[] w : wrong) {
            Check.refused(x, "bank", () -> x.bank(w[0], w[1], w[2], w[3]), -1);
        }
        Check.same("b is a", x.bank(0, 0, 0, 0), 0);
        Check.same("b is a", x.bank(0, 103, 103, 999999), 1);
        Check.same("b is a and 1", x.bank(0, 102, 103, 5), 2);
        for (int i = 3; i < 10; i++) {
            Check.same("bank " + i, x.bank(0, 0, 103, i), i);
            Check.same("untold", x.untell(i), true);
        }
        Check.refused(x, "an eleventh behind untold ones", () -> x.bank(0, 0, 103, 0), -1);
        x.later(1);
        Check.refused(x, "an eleventh later", () -> x.bank(0, 0, 103, 0), -1);
        Check.same("another worker", x.bank(1, 0, 103, 0), 10);
        fills(y -> y.bank(0, 0, 103, 7));
    }

    private static void holidayRefused() {
        Check.sentence("Promise 10", "HOLIDAY: likewise.");
        RestPay x = withWorkers(2);
        int[][] wrong = {{-1, 0, 1, 0}, {2, 0, 1, 0}, {0, -1, 1, 0}, {0, 728, 1, 0}, {0, 0, 0, 0}, {0, 0, 21, 0}, {0, 0, 1, -1},
            {0, 0, 1, 100000}, {MAX_VALUE, 0, 1, 0}, {0, MAX_VALUE, 1, 0}, {0, 0, MIN_VALUE, 0}, {0, 0, 1, MAX_VALUE}};
        for (int[] w : wrong) {
            Check.refused(x, "holiday", () -> x.holiday(w[0], w[1], w[2], w[3]), -1);
        }
        Check.same("the least", x.holiday(0, 0, 1, 0), 0);
        Check.same("the greatest", x.holiday(1, 727, 20, 99999), 1);
        Check.same("the same again", x.holiday(1, 727, 20, 99999), 2);
        fills(y -> y.holiday(0, 7, 5, 7));
    }

    private static void settleRefused() {
        Check.sentence("Promise 11", "BARRED: likewise (days 0 .. 727, the second not below the first).");
        RestPay x = withWorkers(2);
        int[][] wrong = {{-1, 0, 0}, {2, 0, 0}, {0, -1, 0}, {0, 0, 728}, {0, 728, 728}, {0, 1, 0}, {0, 727, 726}, {0, 0, -1},
            {0, 0, MAX_VALUE}, {0, MIN_VALUE, 0}, {MIN_VALUE, 0, 0}};
        for (int[] w : wrong) {
            Check.refused(x, "settle", () -> x.settle(w[0], w[1], w[2]), -1);
        }
        Check.same("one day", x.settle(0, 0, 0), 0);
        Check.same("one day", x.settle(0, 727, 727), 1);
        Check.same("two days", x.settle(0, 726, 727), 2);
        Check.same("all days", x.settle(1, 0, 727), 3);
        fills(y -> y.settle(0, 7, 8));
    }

    private static void claimRefused() {
        Check.sentence("Promise 12", "CLAIM: likewise.");
        RestPay x = withWorkers(2);
        int[][] wrong = {{-1, 0}, {2, 0}, {0, -1}, {0, 1000}, {MAX_VALUE, 0}, {0, MAX_VALUE}, {0, MIN_VALUE}};
        for (int[] w : wrong) {
            Check.refused(x, "claim", () -> x.claim(w[0], w[1]), -1);
        }
        Check.same("day 0", x.claim(0, 0), 0);
        Check.same("day 727", x.claim(0, 727), 1);
        Check.same("day 728", x.claim(0, 728), 2);
        Check.same("day 999", x.claim(1, 999), 3);
        fills(y -> y.claim(0, 7));
    }

    private static void untell() {
        Check.sentence("Promise 13", "A FACT is UNTOLD: true; false if it is so already, or there is none such.");
        RestPay x = withWorkers(1);
        Check.refused(x, "none at all", () -> x.untell(0) ? 1 : 0, 0);
        x.pay(0, 0, 0, 5);
        x.pay(0, 1, 0, 5);
        x.claim(0, 0);
        for (int fact : new int[] {-1, 3, 249, 250, 251, MAX_VALUE, MIN_VALUE}) {
            Check.refused(x, "fact " + fact, () -> x.untell(fact) ? 1 : 0, 0);
        }
        Check.same("the first", x.untell(0), true);
        Check.refused(x, "the first again", () -> x.untell(0) ? 1 : 0, 0);
        Check.same("the last", x.untell(2), true);
        x.later(5);
        Check.refused(x, "the first again, later", () -> x.untell(0) ? 1 : 0, 0);
        Check.same("the second", x.untell(1), true);
        for (int k = 0; k < 7; k++) {
            Check.same("untold at 0, and again at 5: at " + k, x.span(0, 0, false, k), 0);
            Check.same("untold at 5: at " + k, x.span(0, 1, false, k), k < 5 ? 5 : 0);
        }
        Check.same("it keeps its number", x.about(1), 3);
        Check.same("the next number", x.lost(0, 0), 3);
    }

    private static void later() {
        Check.sentence("Promise 14", "So much later (0 .. 1000): the TIME;");
        RestPay x = new RestPay();
        Check.same("0", x.later(0), 0);
        Check.same("1", x.later(1), 1);
        Check.same("999", x.later(999), 1000);
        Check.same("1000", x.later(1000), 2000);
        Check.same("0", x.later(0), 2000);
        Check.same("the time", x.about(2), 2000);
    }

    private static void laterRefused() {
        Check.sentence("Promise 14", "NONE, doing nothing, for another number, or if it would be above 100,000.");
        RestPay x = new RestPay();
        for (int by : new int[] {-1, 1001, MAX_VALUE, MIN_VALUE}) {
            Check.refused(x, "by " + by, () -> x.later(by), -1);
        }
        for (int i = 1; i <= 99; i++) {
            Check.same("1000 more", x.later(1000), 1000 * i);
        }
        Check.same("1 more", x.later(1), 99001);
        Check.refused(x, "to 100,001", () -> x.later(1000), -1);
        Check.same("to 100,000", x.later(999), 100000);
        for (int by : new int[] {1, 1000, -1, MAX_VALUE}) {
            Check.refused(x, "by " + by, () -> x.later(by), -1);
        }
        Check.same("0 more", x.later(0), 100000);
        x.worker(0, false);
        x.pay(0, 0, 0, 5);
        Check.same("told at 100,000", x.span(0, 0, false, 100000), 5);
        Check.same("not before", x.span(0, 0, false, 99999), 0);
        Check.same("untold at 100,000", x.untell(0), true);
        Check.same("not any more", x.span(0, 0, false, 100000), 0);
    }

    private static void spanAnswers() {
        Check.sentence("Promise 15", "SPAN of a WEEK of a worker (high false: the least); of one that is not LOST its base; NONE if there is none such.");
        RestPay x = withWorkers(2);
        x.lost(0, 0);
        x.lost(0, 103);
        x.bank(0, 0, 103, 19997);
        x.pay(0, 1, 1, 1);
        x.pay(0, 1, 0, 0);
        x.pay(1, 103, 0, 9999);
        x.pay(1, 103, 1, 9999);
        Check.same("least", x.span(0, 0, false, 0), 9997);
        Check.same("greatest", x.span(0, 103, true, 0), 9999);
        Check.same("not lost: its base, not its total", x.span(0, 1, true, 0), 0);
        Check.same("not lost: least", x.span(1, 103, false, 0), 9999);
        Check.same("not lost: greatest", x.span(1, 103, true, 0), 9999);
        Check.same("nothing known", x.span(1, 103, true, -1), 0);
        for (int worker : new int[] {-1, 2, 9, 10, MAX_VALUE, MIN_VALUE}) {
            Check.refused(x, "worker " + worker, () -> x.span(worker, 0, true, 0), -1);
        }
        for (int week : new int[] {-1, 104, MAX_VALUE, MIN_VALUE}) {
            Check.refused(x, "week " + week, () -> x.span(0, week, true, 0), -1);
        }
        Check.same("no worker and no week", x.span(2, 104, false, 0), -1);
    }

    private static void quarrelAnswers() {
        Check.sentence("Promise 16", "QUARREL; NONE if 3 do not do; -2 if there is no such worker.");
        RestPay x = withWorkers(2);
        for (int b = 0; b < 5; b++) {
            Check.same("before bank " + b, x.quarrel(1, 0), b < 4 ? (1 << b) - 1 : -1);
            x.bank(1, b, b, 1);
        }
        Check.same("five", x.quarrel(1, 0), -1);
        Check.same("none of the other", x.quarrel(0, 0), 0);
        Check.same("none known", x.quarrel(1, -1), 0);
        for (int worker : new int[] {-1, 2, 10, MAX_VALUE, MIN_VALUE}) {
            Check.refused(x, "worker " + worker, () -> x.quarrel(worker, 0), -2);
        }
    }
}
