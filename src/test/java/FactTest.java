/** Promises 6 to 16: workers, FACTS in two times, SPANS and QUARRELS. */
public final class FactTest {
    public static void main(String[] args) {
        workers();
        pays();
        losts();
        banks();
        holidaysAndSettlements();
        claims();
        untellAndLater();
        twoTimes();
        atMost250();
        spans();
        spansOverlapping();
        spansOfTenBanks();
        quarrelsOfOne();
        quarrelsOfMany();
        Check.end("FactTest");
    }

    private static RestPay withWorkers(int n) {
        RestPay x = new RestPay();
        for (int i = 0; i < n; i++) {
            Check.same("worker", x.worker(i, i % 2 == 0), i);
        }
        return x;
    }

    private static void workers() {
        RestPay x = new RestPay();
        Check.same("place -1", x.worker(-1, true), -1);
        Check.same("place 10", x.worker(10, true), -1);
        Check.same("none yet", x.about(0), 0);
        for (int i = 0; i < 10; i++) {
            Check.same("worker " + i, x.worker(9 - i, i > 4), i);
        }
        Check.same("an eleventh", x.worker(0, false), -1);
        Check.same("ten", x.about(0), 10);
    }

    private static void pays() {
        RestPay x = withWorkers(1);
        int[][] wrong = {{-1, 0, 0, 1}, {1, 0, 0, 1}, {0, -1, 0, 1}, {0, 104, 0, 1}, {0, 0, -1, 1}, {0, 0, 6, 1},
            {0, 0, 0, -1}, {0, 0, 4, 10000}, {0, 0, 5, -1}, {0, 0, 5, 100}};
        for (int[] w : wrong) {
            Check.same("a pay that can't be", x.pay(w[0], w[1], w[2], w[3]), -1);
        }
        Check.same("no facts", x.about(1), 0);
        Check.same("pay", x.pay(0, 103, 4, 9999), 0);
        Check.same("pay", x.pay(0, 0, 5, 99), 1);
        Check.same("pay", x.pay(0, 7, 0, 9999), 2);
        Check.same("pay", x.pay(0, 7, 0, 5), 3);
        Check.same("the last told", x.span(0, 7, false, 0), 5);
        Check.same("pay", x.pay(0, 7, 0, 0), 4);
        Check.same("a told 0", x.span(0, 7, true, 0), 0);
        x.untell(4);
        Check.same("the last but one", x.span(0, 7, true, 0), 5);
        Check.same("0 without", x.span(0, 8, true, 0), 0);
    }

    private static void losts() {
        RestPay x = withWorkers(1);
        Check.same("no worker", x.lost(1, 0), -1);
        Check.same("no worker", x.lost(-1, 0), -1);
        Check.same("no week", x.lost(0, -1), -1);
        Check.same("no week", x.lost(0, 104), -1);
        Check.same("lost", x.lost(0, 0), 0);
        Check.same("lost", x.lost(0, 103), 1);
        Check.same("lost again", x.lost(0, 103), 2);
        Check.same("the least", x.span(0, 103, false, 0), 0);
        Check.same("the greatest", x.span(0, 103, true, 0), 9999);
        x.untell(1);
        Check.same("still lost", x.span(0, 103, true, 0), 9999);
        x.untell(2);
        Check.same("not lost", x.span(0, 103, true, 0), 0);
        for (int what = 0; what < 6; what++) {
            x.pay(0, 0, what, 50);
        }
        Check.act(x, 0, "empty when base + overtime + sales + travel + bonus + hours;", 1);
        Check.same("whatever pay says", x.empty(0, 0, 0, false, 0), 0);
        Check.act(x, 0, "empty when base = 9999 and total = 9999 and hours = 0;", 1);
        Check.same("by highs", x.empty(0, 0, 0, true, 0), 1);
        x.untell(0);
        Check.act(x, 0, "empty when total = 250 and hours = 50;", 1);
        Check.same("what pay says", x.empty(0, 0, 0, true, 0), 1);
        Check.same("span of no worker", x.span(1, 0, true, 0), -1);
        Check.same("span of no worker", x.span(-1, 0, true, 0), -1);
        Check.same("span of no week", x.span(0, -1, true, 0), -1);
        Check.same("span of no week", x.span(0, 104, true, 0), -1);
    }

    private static void banks() {
        RestPay x = withWorkers(2);
        int[][] wrong = {{2, 0, 0, 1}, {-1, 0, 0, 1}, {0, -1, 0, 1}, {0, 1, 0, 1}, {0, 0, 104, 1}, {0, 104, 104, 1},
            {0, 0, 0, -1}, {0, 0, 0, 1000000}};
        for (int[] w : wrong) {
            Check.same("a bank that can't be", x.bank(w[0], w[1], w[2], w[3]), -1);
        }
        Check.same("no facts", x.about(1), 0);
        for (int i = 0; i < 10; i++) {
            Check.same("bank " + i, x.bank(0, 0, 103, 999999), i);
            x.untell(i);
        }
        Check.same("an eleventh", x.bank(0, 0, 103, 0), -1);
        Check.same("of another worker", x.bank(1, 103, 103, 0), 10);
        Check.same("facts", x.about(1), 11);
    }

    private static void holidaysAndSettlements() {
        RestPay x = withWorkers(1);
        int[][] wrong = {{1, 0, 1, 0}, {-1, 0, 1, 0}, {0, -1, 1, 0}, {0, 728, 1, 0}, {0, 0, 0, 0}, {0, 0, 21, 0},
            {0, 0, 1, -1}, {0, 0, 1, 100000}};
        for (int[] w : wrong) {
            Check.same("a holiday that can't be", x.holiday(w[0], w[1], w[2], w[3]), -1);
        }
        Check.same("holiday", x.holiday(0, 0, 1, 0), 0);
        Check.same("holiday", x.holiday(0, 727, 20, 99999), 1);
        int[][] bad = {{1, 0, 0}, {-1, 0, 0}, {0, -1, 0}, {0, 1, 0}, {0, 0, 728}, {0, 728, 728}};
        for (int[] w : bad) {
            Check.same("a settlement that can't be", x.settle(w[0], w[1], w[2]), -1);
        }
        Check.same("settle", x.settle(0, 727, 727), 2);
        Check.same("settle", x.settle(0, 0, 727), 3);
        Check.same("facts", x.about(1), 4);
    }

    private static void claims() {
        RestPay x = withWorkers(1);
        Check.same("no worker", x.claim(1, 0), -1);
        Check.same("no worker", x.claim(-1, 0), -1);
        Check.same("no day", x.claim(0, -1), -1);
        Check.same("no day", x.claim(0, 1000), -1);
        Check.same("claim", x.claim(0, 0), 0);
        Check.same("claim", x.claim(0, 999), 1);
    }

    private static void untellAndLater() {
        RestPay x = withWorkers(1);
        Check.same("none such", x.untell(0), false);
        Check.same("none such", x.untell(-1), false);
        x.lost(0, 0);
        Check.same("untold", x.untell(0), true);
        Check.same("again", x.untell(0), false);
        Check.same("none such", x.untell(1), false);
        Check.same("it is a fact still", x.about(1), 1);
        Check.same("later -1", x.later(-1), -1);
        Check.same("later 1001", x.later(1001), -1);
        Check.same("later 0", x.later(0), 0);
        for (int i = 1; i < 100; i++) {
            Check.same("later 1000", x.later(1000), 1000 * i);
        }
        Check.same("later 999", x.later(999), 99999);
        Check.same("above 100,000", x.later(2), -1);
        Check.same("time", x.about(2), 99999);
        Check.same("just 100,000", x.later(1), 100000);
        Check.same("no later", x.later(1), -1);
        Check.same("later 0", x.later(0), 100000);
        Check.same("later most", x.later(Integer.MAX_VALUE), -1);
        Check.same("later least", x.later(Integer.MIN_VALUE), -1);
        Check.same("time", x.about(2), 100000);
    }

    private static void twoTimes() {
        RestPay x = withWorkers(1);
        x.later(5);
        x.pay(0, 0, 0, 100);
        x.later(2);
        x.pay(0, 0, 0, 200);
        x.later(2);
        x.untell(1);
        x.untell(0);
        x.pay(0, 0, 0, 300);
        x.later(1);
        x.untell(2);
        int[] due = {0, 0, 0, 0, 0, 100, 100, 200, 200, 300, 0, 0};
        for (int k = 0; k < due.length; k++) {
            Check.same("as known at " + k, x.span(0, 0, false, k), due[k]);
        }
        Check.same("as known at the least", x.span(0, 0, false, Integer.MIN_VALUE), 0);
        Check.same("as known at the greatest", x.span(0, 0, false, Integer.MAX_VALUE), 0);
        x.lost(0, 1);
        x.untell(3);
        Check.same("told and untold at once", x.span(0, 1, true, 10), 0);
    }

    private static void atMost250() {
        RestPay x = withWorkers(1);
        for (int i = 0; i < 250; i++) {
            Check.same("fact " + i, x.pay(0, i % 104, i % 5, i), i);
        }
        x.untell(3);
        Check.same("pay", x.pay(0, 0, 0, 0), -1);
        Check.same("lost", x.lost(0, 0), -1);
        Check.same("bank", x.bank(0, 0, 0, 0), -1);
        Check.same("holiday", x.holiday(0, 0, 1, 0), -1);
        Check.same("settle", x.settle(0, 0, 0), -1);
        Check.same("claim", x.claim(0, 0), -1);
        Check.same("facts", x.about(1), 250);
        Check.same("a base", x.span(0, 40, false, 0), 40);
        Check.same("the last fact", x.untell(249), true);
        Check.same("none such", x.untell(250), false);
    }

    private static void span(RestPay x, int week, int least, int most) {
        Check.same("least of " + week, x.span(0, week, false, 0), least);
        Check.same("greatest of " + week, x.span(0, week, true, 0), most);
    }

    private static void spans() {
        RestPay x = withWorkers(1);
        x.lost(0, 1);
        x.lost(0, 2);
        x.lost(0, 3);
        x.pay(0, 0, 0, 100);
        x.pay(0, 0, 1, 20);
        x.pay(0, 0, 4, 3);
        x.pay(0, 0, 5, 40);
        x.bank(0, 0, 3, 20000 + 123);
        span(x, 1, 2, 9999);
        span(x, 2, 2, 9999);
        span(x, 0, 100, 100);
        x.bank(0, 1, 2, 10500);
        span(x, 1, 501, 9999);
        span(x, 3, 9500, 9500);
        x.bank(0, 0, 1, 1123);
        span(x, 1, 1000, 1000);
        span(x, 2, 9500, 9500);
        Check.same("no quarrel", x.quarrel(0, 0), 0);
        x.lost(0, 50);
        span(x, 50, 0, 9999);
        x.bank(0, 50, 50, 0);
        span(x, 50, 0, 0);
        x.lost(0, 103);
        x.bank(0, 103, 103, 9999);
        span(x, 103, 9999, 9999);
        Check.same("no quarrel", x.quarrel(0, 0), 0);
    }

    private static void spansOverlapping() {
        RestPay x = withWorkers(1);
        for (int week = 10; week < 14; week++) {
            x.lost(0, week);
        }
        x.bank(0, 10, 11, 1000);
        x.bank(0, 11, 12, 700);
        x.bank(0, 12, 13, 400);
        span(x, 10, 300, 700);
        span(x, 11, 300, 700);
        span(x, 12, 0, 400);
        span(x, 13, 0, 400);
        Check.same("the ends hold together", x.bank(0, 10, 13, 1400), 7);
        Check.same("no quarrel", x.quarrel(0, 0), 0);
        span(x, 11, 300, 700);
        span(x, 12, 0, 400);
        x.bank(0, 10, 12, 1100);
        span(x, 10, 400, 400);
        span(x, 11, 600, 600);
        span(x, 12, 100, 100);
        span(x, 13, 300, 300);
        Check.same("no quarrel", x.quarrel(0, 0), 0);
    }

    /** Twenty ends of BANKS, all on days of their own, and pay of all KINDS between them. */
    private static void spansOfTenBanks() {
        RestPay x = withWorkers(1);
        for (int b = 0; b < 10; b++) {
            x.lost(0, 10 * b + 3);
            x.pay(0, 10 * b + 4, b % 5, 1000 + b);
            x.pay(0, 10 * b + 5, 5, 7);
            Check.same("bank", x.bank(0, 10 * b + 2, 10 * b + 6, 2000 + b + b) >= 0, true);
        }
        Check.same("no quarrel", x.quarrel(0, 0), 0);
        for (int b = 0; b < 10; b++) {
            span(x, 10 * b + 3, 1000 + b, 1000 + b);
        }
        x.lost(0, 93);
        x.lost(0, 94);
        span(x, 93, 0, 2018);
        span(x, 94, 0, 2018);
    }

    private static void quarrelsOfOne() {
        RestPay x = withWorkers(1);
        Check.same("no worker", x.quarrel(1, 0), -2);
        Check.same("no worker", x.quarrel(-1, 0), -2);
        x.pay(0, 0, 0, 10);
        x.bank(0, 0, 0, 10);
        Check.same("it holds", x.quarrel(0, 0), 0);
        x.bank(0, 0, 0, 11);
        Check.same("nothing is lost", x.quarrel(0, 0), 2);
        x.lost(0, 0);
        Check.same("of like ones the least", x.quarrel(0, 0), 1);
        span(x, 0, 11, 11);
        x.bank(0, 0, 0, 10);
        Check.same("the fewest", x.quarrel(0, 0), 2);
        span(x, 0, 10, 10);
        x.bank(0, 0, 1, 10000);
        Check.same("week 1 is not lost", x.quarrel(0, 0), 10);
        x.bank(0, 1, 2, 5);
        Check.same("nor is week 2", x.quarrel(0, 0), 26);
        span(x, 0, 10, 10);
        x.bank(0, 3, 3, 1);
        Check.same("3 do not do", x.quarrel(0, 0), -1);
        span(x, 0, 0, 9999);
        x.later(1);
        x.untell(1);
        Check.same("as known before", x.quarrel(0, 0), -1);
        Check.same("3 do not do yet", x.quarrel(0, 1), -1);
        x.untell(7);
        Check.same("by the order of those that count", x.quarrel(0, 1), 1 + 4 + 8);
        Check.same("the least then", x.span(0, 0, false, 1), 10);
        Check.same("the greatest then", x.span(0, 0, true, 1), 10);
    }

    private static void quarrelsOfMany() {
        RestPay x = withWorkers(1);
        for (int i = 0; i < 10; i++) {
            x.bank(0, i, i, i < 7 ? 0 : 1);
        }
        Check.same("the last three", x.quarrel(0, 0), 7 << 7);
        x.later(1);
        for (int i = 0; i < 4; i++) {
            x.untell(i);
        }
        Check.same("bits of those that count", x.quarrel(0, 1), 7 << 3);
        Check.same("as known before", x.quarrel(0, 0), 7 << 7);
        x.later(1);
        x.lost(0, 8);
        Check.same("one may be lost", x.quarrel(0, 2), 5 << 3);
        Check.same("as known before", x.quarrel(0, 1), 7 << 3);
        Check.same("nothing is known", x.quarrel(0, -1), 0);
    }
}
