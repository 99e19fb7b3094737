/** Promises 25 to 29: PAYOUT, two SHELVES side by side, MARKS and TESTS. */
public final class PayoutTest {
    public static void main(String[] args) {
        payouts();
        firstClaims();
        marks();
        marksOfWhatCounts();
        quarrels();
        wrongQuestions();
        tests();
        testsOfLikeOnes();
        testsJoined();
        testsByLowsAndHighs();
        Check.end("PayoutTest");
    }

    private static void payouts() {
        RestPay x = new RestPay();
        x.worker(0, false);
        Check.act(x, 0, "counts base 100 when 1; empty when base = 0; chain 10; late 20; days 1;", 5);
        Check.same("no claims", x.payout(0, 0, false, 0), 0);
        x.pay(0, 0, 0, 100);
        x.holiday(0, 10, 1, 0);
        x.holiday(0, 20, 2, 0);
        x.holiday(0, 50, 4, 0);
        Check.same("no claims yet", x.payout(0, 0, false, 0), 0);
        x.claim(0, 20);
        Check.same("one claim", x.payout(0, 0, false, 0), 300);
        x.claim(0, 25);
        Check.same("each holiday once", x.payout(0, 0, false, 0), 300);
        x.claim(0, 55);
        Check.same("another chain", x.payout(0, 0, false, 0), 700);
        x.later(1);
        x.untell(4);
        x.untell(5);
        Check.same("claims that count", x.payout(0, 0, false, 1), 400);
        Check.same("as known before", x.payout(0, 0, false, 0), 700);
        x.untell(3);
        Check.same("holidays that count", x.payout(0, 0, false, 1), 0);
        Check.same("nothing known", x.payout(0, 0, false, -1), 0);
    }

    private static void firstClaims() {
        RestPay x = new RestPay();
        x.worker(0, false);
        Check.act(x, 0, "counts base 100 when 1; empty when base = 0; chain 400; late 400; days 1; interest 100; stop 370;", 7);
        x.pay(0, 0, 0, 1000);
        x.holiday(0, 10, 1, 0);
        x.holiday(0, 200, 2, 0);
        x.claim(0, 400);
        x.claim(0, 375);
        // day 10 is in the chain of day 375 alone: 1000 * 100 * 365 / 365000
        Check.same("due 400", x.due(0, 3, false, 0), 2000 + 109);
        Check.same("due 375", x.due(0, 4, false, 0), 1000 + 100 + 2000 + 95);
        Check.same("the first by days", x.payout(0, 0, false, 0), 1000 + 100 + 2000 + 95);
        x.claim(0, 200);
        Check.same("no interest", x.payout(0, 0, false, 0), 1000 + 52 + 2000);
    }

    private static void marks() {
        RestPay x = new RestPay();
        x.worker(0, false);
        Check.act(x, 0, "counts base 100 when 1; counts sales 1 when 1; counts bonus 0 when 1; counts travel 9 when week = 9;"
                + "weeks 2;", 5);
        x.pay(0, 0, 0, 100);
        x.pay(0, 1, 2, 50);
        x.pay(0, 1, 3, 50);
        x.pay(0, 1, 4, 50);
        x.pay(0, 1, 1, 50);
        x.holiday(0, 14, 5, 0);
        Check.same("no claim", x.marks(0, 0, false, 0), 0);
        x.claim(0, 14);
        // sales counts by 1 of a hundred: 50 / 100 is cut to 0, yet it counts by more than 0
        Check.same("base and sales", x.marks(0, 0, false, 0), 1 + 4);
        Check.act(x, 0, "counts base 100 when 1; counts sales 1 when 1; weeks 1;", 3);
        Check.same("nothing owed", x.marks(0, 0, false, 0), 0);
        x.pay(0, 1, 0, 7);
        Check.same("owed", x.marks(0, 0, false, 0), 1 + 4);
        x.later(1);
        x.untell(6);
        Check.same("no claim that counts", x.marks(0, 0, false, 1), 0);
        Check.same("as known before", x.marks(0, 0, false, 0), 5);
    }

    private static void marksOfWhatCounts() {
        RestPay x = new RestPay();
        x.worker(0, false);
        Check.act(x, 0, "counts base 100 when 1; counts overtime 0 when week = 1; counts overtime 50 when 1;"
                + "empty when sales > 0; counts sales 100 when 1; counts travel 100 when 1; weeks 3; chain 5; late 5;", 9);
        x.pay(0, 2, 0, 100);
        x.pay(0, 1, 1, 100);
        x.pay(0, 0, 2, 100);
        x.holiday(0, 21, 5, 0);
        x.claim(0, 21);
        // week 1 counts overtime by 0, week 0 is empty
        Check.same("base alone", x.marks(0, 0, false, 0), 1);
        x.pay(0, 2, 1, 1);
        Check.same("and overtime", x.marks(0, 0, false, 0), 3);
        RestPay y = new RestPay();
        y.worker(0, false);
        Check.act(y, 0, "counts base 0 when 1; counts bonus 100 when 1; weeks 1;", 3);
        y.pay(0, 0, 0, 100);
        y.pay(0, 0, 4, 1);
        y.holiday(0, 7, 5, 0);
        y.claim(0, 7);
        Check.same("a kind by 0", y.marks(0, 0, false, 0), 16);
        Check.same("a payout of 1", y.payout(0, 0, false, 0), 1);
        Check.same("a test that settles 1", y.tests(0, 1, false, 0), 1);
        // a holiday that is in no chain has weeks that are in no average
        x.pay(0, 9, 3, 100);
        x.holiday(0, 80, 5, 0);
        Check.same("no chain", x.marks(0, 0, false, 0), 3);
        x.claim(0, 80);
        Check.same("a chain", x.marks(0, 0, false, 0), 3 + 8);
        x.settle(0, 21, 21);
        Check.same("barred", x.marks(0, 0, false, 0), 8);
    }

    private static void quarrels() {
        RestPay x = new RestPay();
        Check.same("no workers", x.quarrels(0, 1, true, 0), 0);
        for (int w = 0; w < 3; w++) {
            x.worker(w, false);
            x.pay(w, 0, 0, 100 * (w + 1));
            x.holiday(w, 7, 5, 50);
            x.claim(w, 7);
        }
        Check.act(x, 2, "counts base 100 when 1;", 1);
        Check.act(x, 3, "counts base 60 when 1;", 1);
        // 50 + 150 + 250 against 10 + 70 + 130
        Check.same("2 less 3", x.quarrels(2, 3, false, 0), 240);
        Check.same("3 less 2", x.quarrels(3, 2, false, 0), -240);
        Check.same("2 less 2", x.quarrels(2, 2, false, 0), 0);
        Check.same("2 less an empty one", x.quarrels(2, 0, false, 0), 450);
        x.later(1);
        x.untell(2);
        Check.same("one less", x.quarrels(2, 3, false, 1), 200);
    }

    private static void wrongQuestions() {
        RestPay x = new RestPay();
        x.worker(0, false);
        for (int wrong : new int[] {-1, 4, Integer.MAX_VALUE, Integer.MIN_VALUE}) {
            Check.same("payout of a shelf", x.payout(wrong, 0, false, 0), -1);
            Check.same("payout of a worker", x.payout(0, wrong, false, 0), -1);
            Check.same("marks of a shelf", x.marks(wrong, 0, false, 0), -1);
            Check.same("marks of a worker", x.marks(0, wrong, false, 0), -1);
            Check.same("quarrels", x.quarrels(wrong, 0, false, 0), -1000000000000L);
            Check.same("quarrels", x.quarrels(0, wrong, false, 0), -1000000000000L);
            Check.same("tests of a shelf", x.tests(wrong, 1, false, 0), -1);
            Check.same("settles of a shelf", x.settles(wrong, 1, false, 0), -1);
        }
        for (int t : new int[] {-1, 11, Integer.MAX_VALUE, Integer.MIN_VALUE}) {
            Check.same("tests", x.tests(0, t, false, 0), -1);
            Check.same("settles", x.settles(0, t, false, 0), -1);
        }
        Check.same("tests", x.tests(0, 10, false, 0), 0);
        Check.same("settles", x.settles(0, 10, false, 0), 0);
    }

    /** Workers whose MARKS are the bits given, each with a PAYOUT of 100 for every MARK. */
    private static RestPay office(int... marks) {
        RestPay x = new RestPay();
        for (int w = 0; w < marks.length; w++) {
            x.worker(0, false);
            for (int kind = 0; kind < 5; kind++) {
                if ((marks[w] >> kind & 1) != 0) {
                    x.pay(w, 0, kind, 100);
                }
            }
            x.holiday(w, 7, 5, 0);
            x.claim(w, 7);
        }
        Check.act(x, 0, "counts base 100 when 1; counts overtime 100 when 1; counts sales 100 when 1; counts travel 100 when 1;"
                + "counts bonus 100 when 1; weeks 1;", 6);
        for (int w = 0; w < marks.length; w++) {
            Check.same("marks", x.marks(0, w, false, 0), marks[w]);
            Check.same("payout", x.payout(0, w, false, 0), 100L * Integer.bitCount(marks[w]));
        }
        return x;
    }

    private static void best(RestPay x, int t, int tests, long settles) {
        Check.same("tests " + t, x.tests(0, t, false, 0), tests);
        Check.same("settles " + t, x.settles(0, t, false, 0), settles);
    }

    private static void tests() {
        RestPay x = office(1, 2, 3, 4, 12, 16);
        best(x, 0, 0, 0);
        best(x, 1, 4, 400);
        best(x, 2, 4 + 16, 700);
        best(x, 3, 4 + 16 + 32, 800);
        best(x, 10, 4 + 16 + 32, 800);
        Check.same("nothing known", x.tests(0, 3, false, -1), 0);
        Check.same("another shelf", x.tests(1, 3, false, 0), 0);
    }

    private static void testsOfLikeOnes() {
        RestPay x = office(0, 3, 3, 1);
        best(x, 1, 2, 500);
        best(x, 4, 2, 500);
        x = office(2, 1, 3);
        best(x, 1, 4, 400);
        x = office(16, 8, 4, 2, 1, 1, 2, 4, 8, 16);
        best(x, 1, 1, 200);
        best(x, 3, 7, 600);
        best(x, 10, 31, 1000);
        x = office(0, 0);
        best(x, 2, 0, 0);
    }

    private static void testsJoined() {
        // the marks of worker 2 are settled by two others together
        RestPay x = office(1 + 4, 2 + 8, 1 + 2, 16);
        best(x, 2, 3, 600);
        x = office(7, 24, 31, 31, 31);
        best(x, 1, 4, 2000);
        x = office(7, 24, 17);
        best(x, 2, 3, 700);
    }

    private static void testsByLowsAndHighs() {
        RestPay x = new RestPay();
        x.worker(0, false);
        x.lost(0, 0);
        x.holiday(0, 7, 5, 0);
        x.claim(0, 7);
        Check.act(x, 0, "counts base 100 when 1;", 1);
        Check.same("by lows", x.tests(0, 1, false, 0), 0);
        Check.same("by highs", x.tests(0, 1, true, 0), 1);
        Check.same("by lows", x.settles(0, 1, false, 0), 0);
        Check.same("by highs", x.settles(0, 1, true, 0), 9999);
        Check.same("by highs", x.quarrels(0, 1, true, 0), 9999);
        Check.same("by highs", x.marks(0, 0, true, 0), 1);
        Check.same("by highs", x.payout(0, 0, true, 0), 9999);
        Check.same("by highs", x.due(0, 2, true, 0), 9999);
        Check.same("by highs", x.owed(0, 1, true, 0), 9999);
        Check.same("by highs", x.chain(0, 2, true, 0), 1);
        Check.same("by lows", x.chain(0, 2, false, 0), 0);
    }
}
