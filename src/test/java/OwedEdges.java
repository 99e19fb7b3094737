import static java.lang.Integer.MAX_VALUE;
import static java.lang.Integer.MIN_VALUE;

/** Terms 3 and promises 17 to 25: every sentence quoted, with calls at its edge and beside it. */
final class OwedEdges {
    private static final String ALL_COUNT = "counts base 100 when 1;counts overtime 100 when 1;counts sales 100 when 1;"
            + "counts travel 100 when 1;counts bonus 100 when 1;";

    private OwedEdges() {
    }

    static void run() {
        countedTogether();
        averages();
        averagesOfSome();
        averagesCut();
        oweds();
        chainsOfWhom();
        chainsOfLikeDays();
        lateOnes();
        chainedOnes();
        stoppedOnes();
        dues();
        payoutsOnce();
        payoutsByFirstClaim();
        countedAnswers();
        emptyAnswers();
        averageAnswers();
        weeksAnswers();
        owedAnswers();
        chainAnswers();
        linkAnswers();
        dueAnswers();
        payoutAnswers();
    }

    /** One worker; the lines are on SHELF 0. */
    private static RestPay officeBy(String lines) {
        RestPay x = new RestPay();
        x.worker(0, false);
        Check.act(x, 0, lines, lines.length() - lines.replace(";", "").length());
        return x;
    }

    // ---- Terms 3: averages

    private static void countedTogether() {
        Check.sentence("Terms 3", "COUNTED of a WEEK: what all its KINDS COUNT together.");
        RestPay x = officeBy(ALL_COUNT);
        Check.same("nothing", x.counted(0, 0, 0, false, 0), 0);
        int[] pays = {1, 20, 300, 4000, 9999};
        int sum = 0;
        for (int kind = 0; kind < 5; kind++) {
            x.pay(0, 0, kind, pays[kind]);
            sum += pays[kind];
            Check.same("kinds up to " + kind, x.counted(0, 0, 0, false, 0), sum);
        }
        x.pay(0, 0, 5, 99);
        Check.same("hours are no kind", x.counted(0, 0, 0, false, 0), sum);
        for (int kind = 0; kind < 5; kind++) {
            x.pay(0, 103, kind, 9999);
        }
        Check.same("the greatest", x.counted(0, 0, 103, false, 0), 49995);
        // each is cut by itself: 9 of a hundred of 11 is 0, five times
        RestPay y = officeBy(ALL_COUNT.replace("100", "9"));
        for (int kind = 0; kind < 5; kind++) {
            y.pay(0, 0, kind, 11);
            y.pay(0, 1, kind, 12);
        }
        Check.same("each cut to 0", y.counted(0, 0, 0, false, 0), 0);
        Check.same("each cut to 1", y.counted(0, 0, 1, false, 0), 5);
    }

    private static void averages() {
        Check.sentence("Terms 3", "AVERAGE for a HOLIDAY: from the WEEK ahead of that of its day backwards, no more than back WEEKS,");
        for (int back = 1; back <= 4; back++) {
            RestPay x = officeBy("counts base 100 when 1;back " + back + ";");
            x.pay(0, 6, 0, 1000);
            x.pay(0, 5, 0, 120);
            x.pay(0, 3, 0, 12);
            x.pay(0, 2, 0, 1200);
            x.holiday(0, 42, 1, 0);
            x.holiday(0, 48, 1, 0);
            int[] due = {0, 120, 60, 132 / 3, (132 + 1200) / 4};
            Check.same("back " + back + " from the week's first day", x.average(0, 4, false, 0), due[back]);
            Check.same("back " + back + " from the week's last day", x.average(0, 5, false, 0), due[back]);
            Check.same("weeks", x.weeks(0, 5, false, 0), back);
        }
        RestPay y = officeBy("counts base 100 when 1;back 2;");
        y.pay(0, 0, 0, 10);
        y.pay(0, 1, 0, 20);
        for (int day : new int[] {0, 6, 7, 13, 14}) {
            y.holiday(0, day, 1, 0);
        }
        int[] due = {0, 0, 10, 10, 15};
        int[] weeks = {0, 0, 1, 1, 2};
        for (int i = 0; i < due.length; i++) {
            Check.same("there are less: holiday " + i, y.average(0, 2 + i, false, 0), due[i]);
            Check.same("there are less: weeks of " + i, y.weeks(0, 2 + i, false, 0), weeks[i]);
        }
        // an EMPTY WEEK is one of the back WEEKS
        for (int back = 2; back <= 4; back++) {
            RestPay z = officeBy("counts base 100 when 1;empty when base = 0;back " + back + ";");
            z.pay(0, 3, 0, 70);
            z.holiday(0, 49, 1, 0);
            Check.same("three empty ones ahead, back " + back, z.average(0, 1, false, 0), back == 4 ? 70 : 0);
        }
    }

    private static void averagesOfSome() {
        Check.sentence("Terms 3", "those that are not EMPTY, as many as weeks says at most:");
        for (int weeks = 1; weeks <= 4; weeks++) {
            RestPay x = officeBy("counts base 100 when 1;empty when base = 0;weeks " + weeks + ";");
            x.pay(0, 8, 0, 6);
            x.pay(0, 6, 0, 60);
            x.pay(0, 1, 0, 600);
            x.holiday(0, 70, 1, 0);
            int[] due = {0, 6, 33, 222, 222};
            Check.same("weeks " + weeks, x.average(0, 3, false, 0), due[weeks]);
            Check.same("how many of " + weeks, x.weeks(0, 3, false, 0), Math.min(3, weeks));
        }
        for (int weeks : new int[] {51, 52}) {
            RestPay x = officeBy("weeks " + weeks + ";");
            x.holiday(0, 7 * 50, 1, 0);
            x.holiday(0, 7 * 51, 1, 0);
            x.holiday(0, 7 * 52, 1, 0);
            x.holiday(0, 7 * 53, 1, 0);
            for (int i = 0; i < 4; i++) {
                Check.same("weeks " + weeks + " of " + (50 + i), x.weeks(0, i, false, 0), Math.min(weeks, 50 + i));
            }
        }
        // a WEEK that is not EMPTY counts, though nothing was paid in it
        RestPay y = officeBy("counts base 100 when 1;weeks 2;");
        y.pay(0, 0, 0, 90);
        y.holiday(0, 14, 1, 0);
        y.holiday(0, 21, 1, 0);
        Check.same("one of two", y.average(0, 1, false, 0), 45);
        Check.same("none of two", y.average(0, 2, false, 0), 0);
        Check.same("two weeks of nothing", y.weeks(0, 2, false, 0), 2);
    }

    private static void averagesCut() {
        Check.sentence("Terms 3", "their COUNTED together / how many (cut; 0 without).");
        int[] sums = {0, 1, 2, 3, 4, 5, 6};
        for (int sum : sums) {
            RestPay x = officeBy("counts base 100 when 1;weeks 3;");
            x.pay(0, 1, 0, sum);
            x.holiday(0, 21, 1, 0);
            Check.same(sum + " / 3", x.average(0, 1, false, 0), sum / 3);
        }
        RestPay x = officeBy("counts base 100 when 1;empty when 1;");
        x.pay(0, 0, 0, 500);
        x.holiday(0, 7, 1, 0);
        x.holiday(0, 3, 1, 0);
        Check.same("all are empty", x.average(0, 1, false, 0), 0);
        Check.same("none ahead", x.average(0, 2, false, 0), 0);
        Check.same("none", x.weeks(0, 1, false, 0), 0);
        // 52 of the greatest
        RestPay y = officeBy(ALL_COUNT + "weeks 52;empty when total = 0;");
        for (int week = 0; week < 40; week++) {
            for (int kind = 0; kind < 5; kind++) {
                y.pay(0, week, kind, 9999);
            }
        }
        y.holiday(0, 727, 20, 0);
        Check.same("the greatest", y.average(0, 200, false, 0), 49995);
        Check.same("of forty", y.weeks(0, 200, false, 0), 40);
    }

    private static void oweds() {
        Check.sentence("Terms 3", "OWED: AVERAGE * its days / days (cut), less PAID, 0 at least; 0 if it is BARRED.");
        RestPay x = officeBy("counts base 100 when 1;weeks 1;days 7;");
        x.pay(0, 0, 0, 101);
        int[] due = {14, 28, 43, 57, 72, 86, 101, 115};
        for (int days = 1; days <= 8; days++) {
            x.holiday(0, 7, days, 0);
            Check.same("101 * " + days + " / 7", x.owed(0, days, false, 0), due[days - 1]);
        }
        int[] paid = {113, 114, 115, 116, 99999};
        for (int i = 0; i < paid.length; i++) {
            x.holiday(0, 7, 8, paid[i]);
            Check.same("115 less " + paid[i], x.owed(0, 9 + i, false, 0), Math.max(0, 115 - paid[i]));
        }
        x.holiday(0, 7, 8, 1);
        x.settle(0, 7, 7);
        Check.same("barred", x.owed(0, 14, false, 0), 0);
        Check.same("its average is not", x.average(0, 14, false, 0), 101);
        x.holiday(0, 8, 8, 1);
        Check.same("a day on", x.owed(0, 16, false, 0), 114);
        RestPay y = officeBy(ALL_COUNT + "days 1;weeks 1;");
        for (int kind = 0; kind < 5; kind++) {
            y.pay(0, 0, kind, 9999);
        }
        y.holiday(0, 7, 20, 0);
        y.holiday(0, 7, 20, 99999);
        Check.same("the greatest", y.owed(0, 5, false, 0), 999900);
        Check.same("the greatest, paid the most", y.owed(0, 6, false, 0), 899901);
    }

    // ---- Terms 3: chains

    /** A base of 100 in WEEK 0, the other WEEKS EMPTY: every HOLIDAY of a day from 7 on has 20 a day OWED. */
    private static RestPay hundred(String lines) {
        RestPay x = officeBy("counts base 100 when 1;empty when base = 0;" + lines);
        x.pay(0, 0, 0, 100);
        return x;
    }

    private static void links(RestPay x, int claim, int... due) {
        Check.same("links of " + claim, x.chain(0, claim, false, x.about(2)), due.length);
        for (int n = 0; n < due.length; n++) {
            Check.same("link " + n + " of " + claim, x.link(0, claim, n, false, x.about(2)), due[n]);
        }
        Check.same("link -1 of " + claim, x.link(0, claim, -1, false, x.about(2)), -1);
        Check.same("link behind all of " + claim, x.link(0, claim, due.length, false, x.about(2)), -1);
    }

    private static void chainsOfWhom() {
        Check.sentence("Terms 3", "A CHAIN of a CLAIM: HOLIDAYS of its worker that count, with OWED above 0, on its day or ahead,");
        RestPay x = hundred("");
        x.worker(0, false);
        x.pay(1, 0, 0, 100);
        int own = x.holiday(0, 49, 5, 0);
        int others = x.holiday(1, 49, 5, 0);
        int claim = x.claim(0, 50);
        int othersClaim = x.claim(1, 50);
        links(x, claim, own);
        links(x, othersClaim, others);
        // OWED of 1, of 0 and of what was paid above it
        int ofOne = x.holiday(0, 48, 5, 99);
        x.holiday(0, 48, 5, 100);
        x.holiday(0, 48, 5, 101);
        links(x, claim, own, ofOne);
        // on its day, a day ahead, a day behind
        int onDay = x.holiday(0, 50, 5, 0);
        x.holiday(0, 51, 5, 0);
        links(x, claim, onDay, own, ofOne);
        int ahead = x.claim(0, 49);
        links(x, ahead, own, ofOne);
        x.later(1);
        x.untell(own);
        links(x, claim, onDay, ofOne);
        x.settle(0, 50, 50);
        links(x, claim, ofOne);
        Check.same("as known before", x.chain(0, claim, false, 0), 3);
        RestPay y = hundred("late 999;");
        int first = y.holiday(0, 0, 5, 0);
        y.claim(0, 0);
        links(y, first + 1);
        int seventh = y.holiday(0, 7, 5, 0);
        y.claim(0, 6);
        y.claim(0, 7);
        links(y, seventh + 1);
        links(y, seventh + 2, seventh);
    }

    private static void chainsOfLikeDays() {
        Check.sentence("Terms 3", "by days (of like ones by number):");
        RestPay x = hundred("chain 5;");
        int b1 = x.holiday(0, 20, 1, 0);
        int a1 = x.holiday(0, 15, 1, 0);
        int b2 = x.holiday(0, 20, 3, 0);
        int a2 = x.holiday(0, 15, 2, 0);
        int b3 = x.holiday(0, 20, 2, 0);
        int c1 = x.holiday(0, 16, 2, 0);
        int claim = x.claim(0, 20);
        links(x, claim, b3, b2, b1, c1, a2, a1);
        int earlier = x.claim(0, 19);
        links(x, earlier, c1, a2, a1);
        x.untell(b3);
        links(x, claim, b2, b1, c1, a2, a1);
        // many of one day
        RestPay y = hundred("chain 1;late 0;");
        for (int i = 0; i < 30; i++) {
            y.holiday(0, 7 + 720 * (i % 2), 1, 0);
        }
        int last = y.claim(0, 727);
        Check.same("fifteen", y.chain(0, last, false, 0), 15);
        Check.same("the highest number first", y.link(0, last, 0, false, 0), 30);
        Check.same("the lowest last", y.link(0, last, 14, false, 0), 2);
    }

    private static void lateOnes() {
        Check.sentence("Terms 3", "the last one, if it is no more than late days ahead of the CLAIM;");
        RestPay x = hundred("late 10;");
        int rest = x.holiday(0, 30, 5, 0);
        int[] days = {29, 30, 31, 39, 40, 41};
        int[] due = {0, 1, 1, 1, 1, 0};
        for (int i = 0; i < days.length; i++) {
            int claim = x.claim(0, days[i]);
            Check.same("claim on " + days[i], x.chain(0, claim, false, 0), due[i]);
        }
        // late is for the last one alone
        int ahead = x.holiday(0, 20, 5, 0);
        int on40 = x.claim(0, 40);
        links(x, on40, rest, ahead);
        x.untell(rest);
        links(x, on40);
        int on30 = x.claim(0, 30);
        links(x, on30, ahead);
        // the last one is the last with OWED: what is paid up saves no CLAIM
        x.holiday(0, 39, 5, 100);
        links(x, on40);
        RestPay y = hundred("late 0;");
        int sole = y.holiday(0, 30, 5, 0);
        links(y, y.claim(0, 30), sole);
        links(y, y.claim(0, 31));
    }

    private static void chainedOnes() {
        Check.sentence("Terms 3", "then each next one ahead, as long as it is no more than chain days ahead of the one behind it;");
        RestPay x = hundred("chain 10;");
        int d60 = x.holiday(0, 60, 5, 0);
        int d50 = x.holiday(0, 50, 5, 0);
        int d39 = x.holiday(0, 39, 5, 0);
        int d38 = x.holiday(0, 38, 5, 0);
        int claim = x.claim(0, 60);
        links(x, claim, d60, d50);
        int d49 = x.holiday(0, 49, 5, 0);
        links(x, claim, d60, d50, d49, d39, d38);
        x.untell(d49);
        int d40 = x.holiday(0, 40, 5, 0);
        links(x, claim, d60, d50, d40, d39, d38);
        x.untell(d50);
        links(x, claim, d60);
        int on59 = x.claim(0, 59);
        links(x, on59, d40, d39, d38);
        int paidUp = x.holiday(0, 50, 5, 100);
        links(x, claim, d60);
        Check.same("nothing owed", x.owed(0, paidUp, false, 0), 0);
        RestPay y = hundred("chain 1;");
        int second = y.holiday(0, 31, 5, 0);
        int first = y.holiday(0, 30, 5, 0);
        y.holiday(0, 28, 5, 0);
        links(y, y.claim(0, 31), second, first);
        RestPay z = hundred("chain 719;");
        int late = z.holiday(0, 727, 5, 0);
        int early = z.holiday(0, 8, 5, 0);
        z.holiday(0, 7, 5, 0);
        int of727 = z.claim(0, 727);
        links(z, of727, late, early, early + 1);
        z.untell(early);
        links(z, of727, late);
    }

    private static void stoppedOnes() {
        Check.sentence("Terms 3", "those more than stop days ahead of the CLAIM are left out (they end nothing).");
        for (int stop : new int[] {0, 1, 9, 10, 11, 19, 20, 21, 9999}) {
            RestPay x = hundred("stop " + stop + ";");
            x.holiday(0, 40, 5, 0);
            x.holiday(0, 30, 5, 0);
            x.holiday(0, 20, 5, 0);
            int claim = x.claim(0, 40);
            Check.same("stop " + stop, x.chain(0, claim, false, 0), stop < 10 ? 1 : stop < 20 ? 2 : 3);
            int later = x.claim(0, 41);
            Check.same("stop " + stop + ", a day later", x.chain(0, later, false, 0), stop < 1 ? 0 : stop < 11 ? 1 : stop < 21 ? 2 : 3);
        }
        // the last one may be late enough and yet be left out
        RestPay x = hundred("stop 5;late 10;");
        x.holiday(0, 30, 5, 0);
        links(x, x.claim(0, 36));
        links(x, x.claim(0, 35), 1);
        Check.same("nothing due", x.due(0, 2, false, 0), 0);
    }

    private static void dues() {
        Check.sentence("Terms 3", "DUE of a CLAIM: of its CHAIN all OWED, and of each interest:"
                + " OWED * interest * (day of the CLAIM less its own) / 365000 (cut).");
        int[] days = {0, 1, 364, 365, 366, 730};
        for (int days0 : days) {
            RestPay x = hundred("late 999;interest 10;days 1;");
            x.holiday(0, 30, 1, 0);
            int claim = x.claim(0, 30 + days0);
            Check.same("after " + days0, x.due(0, claim, false, 0), 100 + days0 / 365);
        }
        // each is cut by itself: twice 0.99 is 0
        RestPay x = hundred("late 999;interest 10;days 1;");
        x.holiday(0, 30, 1, 0);
        x.holiday(0, 30, 1, 0);
        int claim = x.claim(0, 30 + 364);
        Check.same("cut one by one", x.due(0, claim, false, 0), 200);
        int next = x.claim(0, 30 + 365);
        Check.same("a day more", x.due(0, next, false, 0), 202);
        int on = x.claim(0, 30);
        Check.same("no days", x.due(0, on, false, 0), 200);
        int ahead = x.claim(0, 29);
        Check.same("no chain", x.due(0, ahead, false, 0), 0);
        // beyond the ints: 999,900 * 999 * 992
        RestPay y = officeBy(ALL_COUNT + "days 1;interest 999;late 999;chain 999;empty when total = 0;");
        for (int kind = 0; kind < 5; kind++) {
            y.pay(0, 0, kind, 9999);
        }
        for (int i = 0; i < 50; i++) {
            y.holiday(0, 7, 20, 0);
        }
        int last = y.claim(0, 999);
        long one = 999900 + 999900L * 999 * 992 / 365000;
        Check.same("the greatest fifty times", y.due(0, last, false, 0), 50 * one);
    }

    private static void payoutsOnce() {
        Check.sentence("Terms 3", "PAYOUT of a worker: each HOLIDAY that is in a CHAIN of a CLAIM of theirs that counts once,");
        RestPay x = hundred("chain 10;late 10;");
        Check.same("no holidays, no claims", x.payout(0, 0, false, 0), 0);
        x.holiday(0, 20, 5, 0);
        x.holiday(0, 30, 5, 1);
        x.holiday(0, 60, 5, 2);
        Check.same("no claims", x.payout(0, 0, false, 0), 0);
        int claim = x.claim(0, 30);
        Check.same("two holidays", x.payout(0, 0, false, 0), 199);
        int again = x.claim(0, 30);
        int more = x.claim(0, 35);
        Check.same("doubled claims", x.payout(0, 0, false, 0), 199);
        int third = x.claim(0, 70);
        Check.same("another chain", x.payout(0, 0, false, 0), 297);
        x.later(1);
        x.untell(claim);
        x.untell(again);
        Check.same("one claim still", x.payout(0, 0, false, 1), 297);
        x.untell(more);
        Check.same("none any more", x.payout(0, 0, false, 1), 98);
        x.untell(third);
        Check.same("no claims that count", x.payout(0, 0, false, 1), 0);
        Check.same("as known before", x.payout(0, 0, false, 0), 297);
        x.worker(0, false);
        x.claim(1, 30);
        Check.same("another's claim", x.payout(0, 0, false, 1), 0);
        Check.same("of the other", x.payout(0, 1, false, 1), 0);
    }

    private static void payoutsByFirstClaim() {
        Check.sentence("Terms 3", "with interest up to the first of such CLAIMS (by days).");
        RestPay x = hundred("late 800;days 1;interest 10;chain 999;stop 740;");
        x.holiday(0, 10, 1, 0);
        int late = x.claim(0, 10 + 730);
        Check.same("730 days", x.payout(0, 0, false, 0), 102);
        int next = x.claim(0, 10 + 365);
        Check.same("365 days, told later", x.payout(0, 0, false, 0), 101);
        int first = x.claim(0, 10 + 364);
        Check.same("364 days", x.payout(0, 0, false, 0), 100);
        x.claim(0, 9);
        Check.same("one that has no chain", x.payout(0, 0, false, 0), 100);
        x.untell(first);
        Check.same("365 days", x.payout(0, 0, false, 0), 101);
        x.untell(next);
        Check.same("730 days", x.payout(0, 0, false, 0), 102);
        x.untell(late);
        Check.same("none", x.payout(0, 0, false, 0), 0);
        // each HOLIDAY by its own first CLAIM: a CLAIM whose CHAIN it is not in does not count for it
        RestPay y = hundred("late 5;days 1;interest 100;chain 400;");
        y.holiday(0, 10, 1, 0);
        y.holiday(0, 375, 1, 0);
        y.claim(0, 380);
        y.claim(0, 20);
        Check.same("365 + 5 days and 5 days", y.payout(0, 0, false, 0), 110 + 100);
        y.claim(0, 15);
        Check.same("5 days and 5 days", y.payout(0, 0, false, 0), 200);
    }

    // ---- promises 17 to 25

    /** PAY is FACT 0, a HOLIDAY 1, a CLAIM 2; the others are 3 to 5; SHELF 0 has an ACT. */
    private static RestPay asked() {
        RestPay x = hundred("");
        x.holiday(0, 7, 5, 0);
        x.claim(0, 8);
        x.lost(0, 50);
        x.bank(0, 60, 61, 0);
        x.settle(0, 70, 71);
        return x;
    }

    private static final int[] NO_SHELVES = {-1, 4, 5, 10, MAX_VALUE, MIN_VALUE};
    private static final int[] NO_WORKERS = {-1, 1, 9, 10, MAX_VALUE, MIN_VALUE};
    private static final int[] NO_WEEKS = {-1, 104, MAX_VALUE, MIN_VALUE};
    private static final int[] NO_FACTS = {-1, 6, 249, 250, MAX_VALUE, MIN_VALUE};

    private static void countedAnswers() {
        Check.sentence("Promise 17", "COUNTED by a SHELF's ACT; NONE if one is none.");
        RestPay x = asked();
        Check.act(x, 3, "counts base 7 when 1;", 1);
        Check.same("shelf 0", x.counted(0, 0, 0, false, 0), 100);
        Check.same("shelf 1", x.counted(1, 0, 0, false, 0), 0);
        Check.same("shelf 3", x.counted(3, 0, 0, false, 0), 7);
        Check.same("week 103", x.counted(3, 0, 103, false, 0), 0);
        for (int shelf : NO_SHELVES) {
            Check.same("shelf " + shelf, x.counted(shelf, 0, 0, false, 0), -1);
        }
        for (int worker : NO_WORKERS) {
            Check.same("worker " + worker, x.counted(0, worker, 0, false, 0), -1);
        }
        for (int week : NO_WEEKS) {
            Check.same("week " + week, x.counted(0, 0, week, false, 0), -1);
        }
        Check.same("none of all", x.counted(4, 1, 104, false, 0), -1);
        Check.same("of a new object", new RestPay().counted(0, 0, 0, false, 0), -1);
    }

    private static void emptyAnswers() {
        Check.sentence("Promise 18", "1 if a WEEK is EMPTY, else 0; NONE likewise.");
        RestPay x = asked();
        Check.act(x, 3, "empty when 9999;", 1);
        Check.same("not empty", x.empty(0, 0, 0, false, 0), 0);
        Check.same("empty", x.empty(0, 0, 1, false, 0), 1);
        Check.same("1, not 9999", x.empty(3, 0, 103, false, 0), 1);
        for (int shelf : NO_SHELVES) {
            Check.same("shelf " + shelf, x.empty(shelf, 0, 0, false, 0), -1);
        }
        for (int worker : NO_WORKERS) {
            Check.same("worker " + worker, x.empty(0, worker, 0, false, 0), -1);
        }
        for (int week : NO_WEEKS) {
            Check.same("week " + week, x.empty(0, 0, week, false, 0), -1);
        }
        Check.same("of a new object", new RestPay().empty(0, 0, 0, false, 0), -1);
    }

    private static void averageAnswers() {
        Check.sentence("Promise 19", "AVERAGE for a HOLIDAY (the FACT's number, as if it counted); NONE if it is none, or no SHELF.");
        RestPay x = asked();
        for (int fact = 0; fact < 6; fact++) {
            Check.same("fact " + fact, x.average(0, fact, false, 0), fact == 1 ? 100 : -1);
        }
        for (int fact : NO_FACTS) {
            Check.same("fact " + fact, x.average(0, fact, false, 0), -1);
        }
        for (int shelf : NO_SHELVES) {
            Check.same("shelf " + shelf, x.average(shelf, 1, false, 0), -1);
        }
        x.later(2);
        x.holiday(0, 7, 5, 0);
        Check.same("told later than k", x.average(0, 6, false, 0), 100);
        x.untell(1);
        Check.same("untold", x.average(0, 1, false, 2), 100);
        Check.same("before all was told", x.average(0, 1, false, -1), 0);
        Check.same("another shelf", x.average(3, 1, false, 2), 0);
    }

    private static void weeksAnswers() {
        Check.sentence("Promise 20", "How many WEEKS are in it; NONE likewise.");
        RestPay x = asked();
        x.holiday(0, 6, 1, 0);
        for (int fact = 0; fact < 6; fact++) {
            Check.same("fact " + fact, x.weeks(0, fact, false, 0), fact == 1 ? 1 : -1);
        }
        Check.same("none ahead", x.weeks(0, 6, false, 0), 0);
        for (int fact : new int[] {-1, 7, 250, MAX_VALUE, MIN_VALUE}) {
            Check.same("fact " + fact, x.weeks(0, fact, false, 0), -1);
        }
        for (int shelf : NO_SHELVES) {
            Check.same("shelf " + shelf, x.weeks(shelf, 1, false, 0), -1);
        }
        x.untell(1);
        Check.same("as if it counted", x.weeks(0, 1, false, 0), 1);
        Check.same("before all was told: all are empty", x.weeks(0, 1, false, -1), 0);
        Check.same("by an act without empty", x.weeks(2, 1, false, -1), 1);
    }

    private static void owedAnswers() {
        Check.sentence("Promise 21", "OWED for it; NONE likewise.");
        RestPay x = asked();
        for (int fact = 0; fact < 6; fact++) {
            Check.same("fact " + fact, x.owed(0, fact, false, 0), fact == 1 ? 100 : -1);
        }
        for (int fact : NO_FACTS) {
            Check.same("fact " + fact, x.owed(0, fact, false, 0), -1);
        }
        for (int shelf : NO_SHELVES) {
            Check.same("shelf " + shelf, x.owed(shelf, 1, false, 0), -1);
        }
        x.untell(1);
        Check.same("as if it counted", x.owed(0, 1, false, 0), 100);
        Check.same("before all was told", x.owed(0, 1, false, -1), 0);
        x.later(1);
        x.settle(0, 7, 7);
        Check.same("barred, though untold", x.owed(0, 1, false, 1), 0);
        Check.same("not barred then", x.owed(0, 1, false, 0), 100);
    }

    private static void chainAnswers() {
        Check.sentence("Promise 22", "How many HOLIDAYS are in the CHAIN of a CLAIM (the FACT's number, as if it counted); NONE if it is none, or no SHELF.");
        RestPay x = asked();
        for (int fact = 0; fact < 6; fact++) {
            Check.same("fact " + fact, x.chain(0, fact, false, 0), fact == 2 ? 1 : -1);
        }
        for (int fact : NO_FACTS) {
            Check.same("fact " + fact, x.chain(0, fact, false, 0), -1);
        }
        for (int shelf : NO_SHELVES) {
            Check.same("shelf " + shelf, x.chain(shelf, 2, false, 0), -1);
        }
        Check.same("an empty shelf", x.chain(1, 2, false, 0), 0);
        x.later(1);
        x.untell(2);
        Check.same("untold", x.chain(0, 2, false, 1), 1);
        x.claim(0, 8);
        Check.same("told later than k", x.chain(0, 6, false, 0), 1);
        Check.same("before all was told", x.chain(0, 2, false, -1), 0);
        x.untell(1);
        Check.same("a holiday must count", x.chain(0, 2, false, 1), 0);
    }

    private static void linkAnswers() {
        Check.sentence("Promise 23", "The n-th of them (the last first): the FACT's number; NONE if there is none such, or likewise.");
        RestPay x = asked();
        x.holiday(0, 8, 5, 0);
        int[] ns = {MIN_VALUE, -2, -1, 0, 1, 2, 3, 250, MAX_VALUE};
        int[] due = {-1, -1, -1, 6, 1, -1, -1, -1, -1};
        for (int i = 0; i < ns.length; i++) {
            Check.same("link " + ns[i], x.link(0, 2, ns[i], false, 0), due[i]);
        }
        for (int fact : new int[] {0, 1, 3, 4, 5, 6, 7, -1, MAX_VALUE, MIN_VALUE}) {
            Check.same("fact " + fact, x.link(0, fact, 0, false, 0), -1);
        }
        for (int shelf : NO_SHELVES) {
            Check.same("shelf " + shelf, x.link(shelf, 2, 0, false, 0), -1);
        }
        Check.same("of no chain", x.link(1, 2, 0, false, 0), -1);
        x.untell(2);
        Check.same("as if it counted", x.link(0, 2, 1, false, 0), 1);
    }

    private static void dueAnswers() {
        Check.sentence("Promise 24", "DUE of a CLAIM; NONE likewise.");
        RestPay x = asked();
        for (int fact = 0; fact < 6; fact++) {
            Check.same("fact " + fact, x.due(0, fact, false, 0), fact == 2 ? 100 : -1);
        }
        for (int fact : NO_FACTS) {
            Check.same("fact " + fact, x.due(0, fact, false, 0), -1);
        }
        for (int shelf : NO_SHELVES) {
            Check.same("shelf " + shelf, x.due(shelf, 2, false, 0), -1);
        }
        Check.same("an empty shelf", x.due(3, 2, false, 0), 0);
        x.untell(2);
        Check.same("as if it counted", x.due(0, 2, false, 0), 100);
        Check.same("before all was told", x.due(0, 2, false, -1), 0);
    }

    private static void payoutAnswers() {
        Check.sentence("Promise 25", "PAYOUT of a worker; NONE if there is none such, or no SHELF.");
        RestPay x = asked();
        Check.same("payout", x.payout(0, 0, false, 0), 100);
        Check.same("an empty shelf", x.payout(3, 0, false, 0), 0);
        Check.same("before all was told", x.payout(0, 0, false, -1), 0);
        for (int worker : NO_WORKERS) {
            Check.same("worker " + worker, x.payout(0, worker, false, 0), -1);
        }
        for (int shelf : NO_SHELVES) {
            Check.same("shelf " + shelf, x.payout(shelf, 0, false, 0), -1);
        }
        Check.same("worker 1 is told", x.worker(0, false), 1);
        Check.same("and has none", x.payout(0, 1, false, 0), 0);
        Check.same("a claim that does not count pays nothing", x.untell(2), true);
        Check.same("payout", x.payout(0, 0, false, 0), 0);
    }
}
