import static java.lang.Integer.MAX_VALUE;
import static java.lang.Integer.MIN_VALUE;

/** Terms 4, promises 26 to 29 and the 512 calls: every sentence quoted, with calls at its edge and beside it. */
final class PayoutEdges {
    private static final String ALL_COUNT = "counts base 100 when 1;counts overtime 100 when 1;counts sales 100 when 1;"
            + "counts travel 100 when 1;counts bonus 100 when 1;";
    private static final long NO_DIFFERENCE = -1000000000000L;

    private PayoutEdges() {
    }

    static void run() {
        none();
        calls();
        marksByMoreThanZero();
        marksOfWhichWeeks();
        atMostSoMany();
        withPayouts();
        settled();
        greatest();
        fewest();
        leastNumber();
        quarrelsAnswers();
        quarrelsWithout();
        marksAnswers();
        testsAnswers();
        settlesAnswers();
    }

    private static void none() {
        Check.sentence("Terms 4", "The constants: `NONE = -1`: There is none.");
        Check.same("NONE", RestPay.NONE, -1);
        Check.same("there is none", new RestPay().end(1), RestPay.NONE);
    }

    private static void calls() {
        Check.sentence("What it is", "An object is used for at most 512 calls after it has been made; what later calls answer is free.");
        RestPay x = new RestPay();
        Check.same("call 1", x.worker(0, false), 0);
        for (int call = 2; call <= 511; call++) {
            Check.same("call " + call, x.later(1), call - 1);
        }
        Check.same("call 512", x.about(2), 510);
        // free, but none may throw
        x.later(1);
        x.pay(0, 0, 0, 1);
        x.payout(0, 0, false, 0);
        x.tests(0, 3, true, 0);
    }

    // ---- Terms 4: MARKS

    /** A worker with a HOLIDAY on a WEEK's first day, ahead of it that WEEK's pay, and a CLAIM on that day. */
    private static void claimed(RestPay x, int worker, int week) {
        x.holiday(worker, 7 * week + 7, 5, 0);
        x.claim(worker, 7 * week + 7);
    }

    private static RestPay officeBy(String lines) {
        RestPay x = new RestPay();
        x.worker(0, false);
        Check.act(x, 0, lines, lines.length() - lines.replace(";", "").length());
        return x;
    }

    private static void marksByMoreThanZero() {
        Check.sentence("Terms 4", "MARKS of a worker: the KINDS (as bits) that COUNT by more than 0 of what is above 0");
        for (int kind = 0; kind < 5; kind++) {
            RestPay x = officeBy(ALL_COUNT + "weeks 1;");
            x.pay(0, 0, kind, 1);
            claimed(x, 0, 0);
            Check.same("the bit of kind " + kind, x.marks(0, 0, false, 0), 1 << kind);
            for (int other = 0; other < 5; other++) {
                x.pay(0, 0, other, 1);
            }
            Check.same("all bits", x.marks(0, 0, false, 0), 31);
            x.pay(0, 0, kind, 0);
            Check.same("not of what is 0", x.marks(0, 0, false, 0), 31 - (1 << kind));
            x.pay(0, 0, 5, 99);
            Check.same("hours are no kind", x.marks(0, 0, false, 0), 31 - (1 << kind));
        }
        for (int percent = 0; percent <= 2; percent++) {
            RestPay x = officeBy("counts base 100 when 1;counts bonus " + percent + " when 1;weeks 1;");
            x.pay(0, 0, 0, 10);
            x.pay(0, 0, 4, 1);
            claimed(x, 0, 0);
            Check.same("by " + percent, x.marks(0, 0, false, 0), percent == 0 ? 1 : 17);
        }
        // the first line that holds says by how many
        RestPay y = officeBy("counts base 0 when week = 0;counts base 50 when week = 1;counts sales 1 when 1;");
        y.pay(0, 0, 0, 900);
        y.pay(0, 0, 2, 500);
        claimed(y, 0, 0);
        Check.same("base by 0 in week 0", y.marks(0, 0, false, 0), 4);
        y.pay(0, 1, 0, 900);
        claimed(y, 0, 1);
        Check.same("base by 50 in week 1", y.marks(0, 0, false, 0), 5);
    }

    private static void marksOfWhichWeeks() {
        Check.sentence("Terms 4", "in any WEEK that is in an AVERAGE of a HOLIDAY in a CHAIN of a CLAIM of theirs that counts.");
        RestPay x = officeBy(ALL_COUNT + "weeks 2;back 3;empty when hours = 1;late 0;chain 1;");
        for (int week = 0; week < 5; week++) {
            x.pay(0, week, week, 100);
        }
        int rest = x.holiday(0, 35, 5, 0);
        int claim = x.claim(0, 35);
        Check.same("weeks 4 and 3", x.marks(0, 0, false, 0), 16 + 8);
        int hours = x.pay(0, 3, 5, 1);
        Check.same("weeks 4 and 2: 3 is empty", x.marks(0, 0, false, 0), 16 + 4);
        x.pay(0, 4, 5, 1);
        Check.same("week 2: no more than three back", x.marks(0, 0, false, 0), 4);
        x.later(1);
        x.untell(hours);
        Check.same("weeks 3 and 2", x.marks(0, 0, false, 1), 8 + 4);
        // two HOLIDAYS, each in a CHAIN of its own
        int second = x.holiday(0, 14, 5, 0);
        Check.same("in no chain", x.marks(0, 0, false, 1), 8 + 4);
        int secondClaim = x.claim(0, 14);
        Check.same("weeks 1 and 0 too", x.marks(0, 0, false, 1), 15);
        x.untell(secondClaim);
        Check.same("a claim that does not count", x.marks(0, 0, false, 1), 8 + 4);
        x.claim(0, 15);
        Check.same("a claim too late", x.marks(0, 0, false, 1), 8 + 4);
        x.claim(0, 14);
        x.settle(0, 35, 35);
        Check.same("a holiday that is barred", x.marks(0, 0, false, 1), 3);
        x.untell(second);
        Check.same("a holiday that does not count", x.marks(0, 0, false, 1), 0);
        Check.same("as known before", x.marks(0, 0, false, 0), 4);
        Check.same("facts in use", rest + claim, 5 + 6);
    }

    // ---- Terms 4: TESTS

    /** Workers with these MARKS and these PAYOUTS (0: no CLAIM); a PAYOUT is shared out among the MARKS. */
    private static RestPay office(int[] marks, int[] payouts) {
        RestPay x = officeBy(ALL_COUNT + "weeks 1;");
        for (int w = 0; w < marks.length; w++) {
            if (w > 0) {
                x.worker(0, false);
            }
            int left = payouts[w];
            for (int kind = 4; kind >= 0; kind--) {
                if ((marks[w] >> kind & 1) != 0) {
                    boolean last = (marks[w] & (1 << kind) - 1) == 0;
                    x.pay(w, 0, kind, last ? left : 1);
                    left--;
                }
            }
            x.holiday(w, 7, 5, 0);
            if (payouts[w] > 0) {
                x.claim(w, 7);
            }
            Check.same("payout of " + w, x.payout(0, w, false, 0), payouts[w]);
            Check.same("marks of " + w, x.marks(0, w, false, 0), payouts[w] > 0 ? marks[w] : 0);
        }
        return x;
    }

    private static void best(RestPay x, int t, int tests, long settles) {
        Check.same("tests " + t, x.tests(0, t, false, 0), tests);
        Check.same("settles " + t, x.settles(0, t, false, 0), settles);
    }

    private static void atMostSoMany() {
        Check.sentence("Terms 4", "TESTS: t workers at most,");
        RestPay x = office(new int[] {1, 2, 4, 8, 16}, new int[] {10, 20, 30, 40, 50});
        int[] tests = {0, 16, 24, 28, 30, 31, 31, 31, 31, 31, 31};
        int[] sums = {0, 50, 90, 120, 140, 150, 150, 150, 150, 150, 150};
        for (int t = 0; t <= 10; t++) {
            best(x, t, tests[t], sums[t]);
        }
        RestPay none = new RestPay();
        for (int t = 0; t <= 10; t++) {
            best(none, t, 0, 0);
        }
        RestPay one = office(new int[] {1}, new int[] {1});
        best(one, 0, 0, 0);
        best(one, 1, 1, 1);
        best(one, 2, 1, 1);
    }

    private static void withPayouts() {
        Check.sentence("Terms 4", "with a PAYOUT above 0 each;");
        best(office(new int[] {1, 1}, new int[] {0, 1}), 2, 2, 1);
        best(office(new int[] {1, 1}, new int[] {1, 0}), 2, 1, 1);
        best(office(new int[] {3, 1, 2}, new int[] {0, 5, 6}), 1, 4, 6);
        best(office(new int[] {3, 1, 2}, new int[] {2, 5, 6}), 1, 1, 13);
        best(office(new int[] {31, 1, 31}, new int[] {0, 0, 0}), 3, 0, 0);
    }

    private static void settled() {
        Check.sentence("Terms 4", "SETTLED by them are workers each of whose MARKS is a MARK of one of them (another one for another MARK).");
        // one test: who has no other MARKS
        best(office(new int[] {3, 1, 2, 4, 7}, new int[] {100, 5, 6, 7, 8}), 1, 16, 126);
        best(office(new int[] {3, 1, 2, 4, 7}, new int[] {100, 5, 6, 7, 8}), 2, 16, 126);
        // two tests together settle 12, which neither does alone
        best(office(new int[] {1 + 4, 2 + 8, 4 + 8}, new int[] {50, 40, 30}), 1, 1, 50);
        best(office(new int[] {1 + 4, 2 + 8, 4 + 8}, new int[] {50, 40, 30}), 2, 3, 120);
        // three MARKS by three tests
        best(office(new int[] {1, 2, 4, 7}, new int[] {10, 10, 10, 9}), 3, 8, 39);
        best(office(new int[] {1 + 8, 2 + 16, 4, 7}, new int[] {10, 10, 10, 9}), 2, 9, 29);
        best(office(new int[] {1 + 8, 2 + 16, 4, 7}, new int[] {10, 10, 10, 9}), 3, 7, 39);
        // MARKS that no test has settle nothing
        best(office(new int[] {1, 16}, new int[] {3, 2}), 1, 1, 3);
    }

    private static void greatest() {
        Check.sentence("Terms 4", "Those that settle the greatest PAYOUTS together;");
        best(office(new int[] {1, 2}, new int[] {9, 10}), 1, 2, 10);
        best(office(new int[] {1, 2}, new int[] {11, 10}), 1, 1, 11);
        best(office(new int[] {1, 2, 2, 1}, new int[] {9, 5, 5, 0}), 1, 2, 10);
        best(office(new int[] {1, 2, 2, 1}, new int[] {9, 5, 5, 2}), 1, 1, 11);
        // more tests do when they settle 1 more
        best(office(new int[] {3, 1, 2, 4}, new int[] {50, 5, 5, 1}), 4, 9, 61);
    }

    private static void fewest() {
        Check.sentence("Terms 4", "of like ones the fewest;");
        best(office(new int[] {1, 2, 3}, new int[] {5, 5, 2}), 3, 4, 12);
        best(office(new int[] {1, 2, 4, 8, 16, 31}, new int[] {5, 5, 5, 5, 5, 5}), 10, 32, 30);
        best(office(new int[] {1, 1, 1}, new int[] {5, 5, 5}), 3, 1, 15);
        best(office(new int[] {1, 2, 1 + 4, 2 + 4}, new int[] {5, 5, 5, 5}), 4, 6, 20);
    }

    private static void leastNumber() {
        Check.sentence("Terms 4", "then the least number (as bits).");
        best(office(new int[] {1, 2}, new int[] {10, 10}), 1, 1, 10);
        best(office(new int[] {4, 2, 1}, new int[] {10, 10, 10}), 2, 3, 20);
        best(office(new int[] {1, 3, 3, 3}, new int[] {10, 10, 10, 10}), 1, 2, 40);
        best(office(new int[] {1, 2, 4, 3, 5, 6}, new int[] {9, 9, 9, 9, 9, 9}), 2, 12, 54);
        int[] tens = new int[10];
        int[] marks = new int[10];
        for (int w = 0; w < 10; w++) {
            tens[w] = 10;
            marks[w] = 1 << 4 - w % 5;
        }
        RestPay x = office(marks, tens);
        best(x, 1, 1, 20);
        best(x, 4, 15, 80);
        best(x, 5, 31, 100);
        best(x, 10, 31, 100);
        for (int w = 0; w < 10; w++) {
            tens[w] = w < 9 ? 0 : 1;
        }
        best(office(marks, tens), 10, 512, 1);
    }

    // ---- promises 26 to 29

    private static final int[] NO_SHELVES = {-1, 4, 5, MAX_VALUE, MIN_VALUE};

    private static void quarrelsAnswers() {
        Check.sentence("Promise 26", "All PAYOUTS by a SHELF less all by another one;");
        Check.same("no workers", new RestPay().quarrels(0, 3, false, 0), 0);
        RestPay x = office(new int[] {1, 2, 3}, new int[] {100, 50, 20});
        Check.act(x, 3, "counts base 100 when 1;weeks 1;", 2);
        Check.same("170 less 119", x.quarrels(0, 3, false, 0), 170 - 119);
        Check.same("119 less 170", x.quarrels(3, 0, false, 0), 119 - 170);
        Check.same("170 less 0", x.quarrels(0, 1, false, 0), 170);
        Check.same("0 less 170", x.quarrels(1, 0, false, 0), -170);
        Check.same("the same one", x.quarrels(3, 3, false, 0), 0);
        Check.same("before all was told", x.quarrels(0, 3, false, -1), 0);
        // ten workers, the last of them too
        int[] marks = new int[10];
        int[] payouts = new int[10];
        for (int w = 0; w < 10; w++) {
            marks[w] = 1;
            payouts[w] = 1 << w;
        }
        Check.same("ten workers", office(marks, payouts).quarrels(0, 2, true, 0), 1023);
        // lows and highs, with interest beyond the ints in its steps
        RestPay y = officeBy("counts base 100 when 1;empty when base = 0;days 1;interest 999;late 999;");
        y.lost(0, 0);
        y.holiday(0, 7, 20, 0);
        y.claim(0, 999);
        Check.same("by lows", y.quarrels(0, 1, false, 0), 0);
        Check.same("by highs", y.quarrels(0, 1, true, 0), 199980 + 199980L * 999 * 992 / 365000);
    }

    private static void quarrelsWithout() {
        Check.sentence("Promise 26", "-1000000000000 if one is none.");
        RestPay x = office(new int[] {1}, new int[] {100});
        for (int shelf : NO_SHELVES) {
            Check.same("the first is " + shelf, x.quarrels(shelf, 0, false, 0), NO_DIFFERENCE);
            Check.same("the second is " + shelf, x.quarrels(0, shelf, false, 0), NO_DIFFERENCE);
            Check.same("both are " + shelf, x.quarrels(shelf, shelf, false, 0), NO_DIFFERENCE);
            Check.same("of a new object", new RestPay().quarrels(shelf, 0, false, 0), NO_DIFFERENCE);
        }
        Check.same("0 and 3", x.quarrels(0, 3, false, 0), 100);
        Check.same("3 and 0", x.quarrels(3, 0, false, 0), -100);
    }

    private static void marksAnswers() {
        Check.sentence("Promise 27", "MARKS of a worker; NONE if there is none such, or no SHELF.");
        RestPay x = office(new int[] {5, 24}, new int[] {100, 100});
        Check.same("of 0", x.marks(0, 0, false, 0), 5);
        Check.same("of 1", x.marks(0, 1, false, 0), 24);
        Check.same("by shelf 3", x.marks(3, 1, false, 0), 0);
        for (int worker : new int[] {-1, 2, 9, 10, MAX_VALUE, MIN_VALUE}) {
            Check.same("worker " + worker, x.marks(0, worker, false, 0), -1);
        }
        for (int shelf : NO_SHELVES) {
            Check.same("shelf " + shelf, x.marks(shelf, 0, false, 0), -1);
        }
        Check.same("of a new object", new RestPay().marks(0, 0, false, 0), -1);
    }

    private static void testsAnswers() {
        Check.sentence("Promise 28", "TESTS (0 .. 10 workers) as bits; NONE if it can't be told.");
        RestPay x = office(new int[] {1, 2}, new int[] {100, 100});
        int[] ts = {MIN_VALUE, -1, 0, 1, 2, 9, 10, 11, MAX_VALUE};
        int[] due = {-1, -1, 0, 1, 3, 3, 3, -1, -1};
        for (int i = 0; i < ts.length; i++) {
            Check.same("t " + ts[i], x.tests(0, ts[i], false, 0), due[i]);
            Check.same("of a new object: t " + ts[i], new RestPay().tests(0, ts[i], false, 0), due[i] < 0 ? -1 : 0);
        }
        for (int shelf : NO_SHELVES) {
            Check.same("shelf " + shelf, x.tests(shelf, 1, false, 0), -1);
        }
        Check.same("shelf 3", x.tests(3, 1, false, 0), 0);
        Check.same("before all was told", x.tests(0, 1, false, -1), 0);
    }

    private static void settlesAnswers() {
        Check.sentence("Promise 29", "What they settle, all PAYOUTS together; NONE likewise.");
        RestPay x = office(new int[] {1, 2}, new int[] {100, 30});
        int[] ts = {MIN_VALUE, -1, 0, 1, 2, 9, 10, 11, MAX_VALUE};
        int[] due = {-1, -1, 0, 100, 130, 130, 130, -1, -1};
        for (int i = 0; i < ts.length; i++) {
            Check.same("t " + ts[i], x.settles(0, ts[i], false, 0), due[i]);
            Check.same("of a new object: t " + ts[i], new RestPay().settles(0, ts[i], false, 0), due[i] < 0 ? -1 : 0);
        }
        for (int shelf : NO_SHELVES) {
            Check.same("shelf " + shelf, x.settles(shelf, 1, false, 0), -1);
        }
        Check.same("shelf 3", x.settles(3, 1, false, 0), 0);
        Check.same("before all was told", x.settles(0, 1, false, -1), 0);
    }
}
