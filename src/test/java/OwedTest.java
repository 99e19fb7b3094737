/** Promises 17 to 24: COUNTED, EMPTY, AVERAGE, OWED, CHAINS and DUE. */
public final class OwedTest {
    public static void main(String[] args) {
        countedByLines();
        countedByLowsAndHighs();
        averages();
        averagesBackwards();
        oweds();
        barred();
        wrongQuestions();
        otherFacts();
        notTold();
        chains();
        chainsByNumber();
        chainsCut();
        dues();
        Check.end("OwedTest");
    }

    private static RestPay withWorker(String text, int lines) {
        RestPay x = new RestPay();
        x.worker(3, true);
        Check.act(x, 0, text, lines);
        return x;
    }

    private static void countedByLines() {
        RestPay x = withWorker("counts base 33 when week > 0; counts base 100 when 1; counts sales 0 when 1;"
                + "counts sales 100 when 1; counts bonus 50 when hours > 10;", 5);
        x.pay(0, 0, 0, 101);
        x.pay(0, 1, 0, 101);
        x.pay(0, 1, 2, 500);
        x.pay(0, 1, 4, 7);
        x.pay(0, 1, 3, 900);
        Check.same("the second line", x.counted(0, 0, 0, false, 0), 101);
        Check.same("the first line, cut", x.counted(0, 0, 1, false, 0), 33);
        x.pay(0, 1, 5, 11);
        Check.same("each kind is cut", x.counted(0, 0, 1, false, 0), 36);
        Check.same("nothing paid", x.counted(0, 0, 2, false, 0), 0);
        Check.same("no lines", x.counted(1, 0, 1, false, 0), 0);
        Check.same("nothing known", x.counted(0, 0, 1, false, -1), 0);
        Check.same("not empty without the line", x.empty(0, 0, 2, false, 0), 0);
    }

    private static void countedByLowsAndHighs() {
        RestPay x = withWorker("counts base 50 when habit base < 2; empty when total < 300;", 2);
        x.lost(0, 0);
        x.lost(0, 1);
        x.lost(0, 2);
        x.bank(0, 0, 1, 1000);
        Check.same("low", x.counted(0, 0, 0, false, 0), 0);
        Check.same("high", x.counted(0, 0, 0, true, 0), 500);
        Check.same("empty by lows", x.empty(0, 0, 0, false, 0), 1);
        Check.same("not by highs", x.empty(0, 0, 0, true, 0), 0);
        Check.same("a habit by highs", x.counted(0, 0, 2, true, 0), 0);
        x.bank(0, 2, 2, 77);
        Check.same("none by lows", x.counted(0, 0, 2, false, 0), 38);
    }

    private static void averages() {
        RestPay x = withWorker("counts base 100 when 1; empty when base = 0; weeks 2; back 4;", 4);
        for (int week : new int[] {1, 2, 4, 6}) {
            x.pay(0, week, 0, 100 * week + 1);
        }
        Check.same("holiday in week 7", x.holiday(0, 55, 1, 0), 4);
        Check.same("weeks 6 and 4", x.average(0, 4, false, 0), 501);
        Check.same("two", x.weeks(0, 4, false, 0), 2);
        x.holiday(0, 62, 1, 0);
        Check.same("week 8: 6 and 4", x.average(0, 5, false, 0), 501);
        x.holiday(0, 63, 1, 0);
        Check.same("week 9: 6 alone", x.average(0, 6, false, 0), 601);
        Check.same("one", x.weeks(0, 6, false, 0), 1);
        x.holiday(0, 13, 1, 0);
        Check.same("week 1: not its own", x.average(0, 7, false, 0), 0);
        Check.same("none", x.weeks(0, 7, false, 0), 0);
        x.holiday(0, 14, 1, 0);
        Check.same("week 2: 1", x.average(0, 8, false, 0), 101);
        x.holiday(0, 0, 1, 0);
        Check.same("week 0: none", x.weeks(0, 9, false, 0), 0);
        x.untell(4);
        Check.same("as if it counted", x.average(0, 4, false, 0), 501);
        Check.same("nothing known", x.average(0, 4, false, -1), 0);
        Check.same("12 weeks by no lines", x.weeks(1, 6, false, 0), 9);
        x.holiday(0, 700, 1, 0);
        Check.same("12 weeks at most", x.weeks(1, 10, false, 0), 12);
    }

    private static void averagesBackwards() {
        RestPay x = withWorker("counts base 100 when 1; empty when week > 3; weeks 52;", 3);
        x.pay(0, 3, 0, 10);
        x.pay(0, 0, 0, 11);
        x.holiday(0, 727, 1, 0);
        Check.same("104 weeks back", x.average(0, 2, false, 0), 5);
        Check.same("weeks 3 to 0", x.weeks(0, 2, false, 0), 4);
        Check.act(x, 0, "counts base 100 when 1; empty when week > 3; weeks 52; back 101;", 4);
        Check.same("weeks 3 and 2", x.weeks(0, 2, false, 0), 2);
        Check.act(x, 0, "counts base 100 when 1; weeks 52; back 104;", 3);
        Check.same("52 weeks", x.weeks(0, 2, false, 0), 52);
    }

    private static void oweds() {
        RestPay x = withWorker("counts base 100 when 1; weeks 1;", 2);
        x.pay(0, 0, 0, 333);
        x.holiday(0, 7, 3, 0);
        Check.same("333 * 3 / 5", x.owed(0, 1, false, 0), 199);
        x.holiday(0, 13, 3, 198);
        Check.same("less paid", x.owed(0, 2, false, 0), 1);
        x.holiday(0, 13, 3, 200);
        Check.same("0 at least", x.owed(0, 3, false, 0), 0);
        Check.act(x, 0, "counts base 100 when 1; weeks 1; days 7;", 3);
        Check.same("333 * 3 / 7", x.owed(0, 1, false, 0), 142);
        Check.act(x, 0, "counts base 100 when 1; counts bonus 100 when 1; counts sales 100 when 1; counts travel 100 when 1;"
                + "counts overtime 100 when 1; weeks 1; days 1;", 7);
        for (int kind = 0; kind < 5; kind++) {
            x.pay(0, 0, kind, 9999);
        }
        x.holiday(0, 7, 20, 0);
        Check.same("the greatest", x.owed(0, 9, false, 0), 999900);
    }

    private static void barred() {
        RestPay x = withWorker("counts base 100 when 1; weeks 1;", 2);
        x.worker(0, false);
        x.pay(0, 0, 0, 500);
        x.holiday(0, 7, 5, 0);
        x.settle(0, 8, 20);
        x.settle(0, 0, 6);
        x.settle(1, 0, 727);
        Check.same("not barred", x.owed(0, 1, false, 0), 500);
        x.later(1);
        x.settle(0, 7, 7);
        Check.same("barred", x.owed(0, 1, false, 1), 0);
        Check.same("its average stays", x.average(0, 1, false, 1), 500);
        Check.same("not before", x.owed(0, 1, false, 0), 500);
        x.later(1);
        x.untell(5);
        Check.same("not barred any more", x.owed(0, 1, false, 2), 500);
        Check.same("but then", x.owed(0, 1, false, 1), 0);
        x.settle(0, 7, 9);
        Check.same("from its day on", x.owed(0, 1, false, 2), 0);
    }

    private static void wrongQuestions() {
        RestPay x = withWorker("counts base 100 when 1;", 1);
        x.pay(0, 0, 0, 500);
        x.holiday(0, 7, 5, 0);
        x.claim(0, 7);
        for (int shelf : new int[] {-1, 4}) {
            Check.same("counted", x.counted(shelf, 0, 0, false, 0), -1);
            Check.same("empty", x.empty(shelf, 0, 0, false, 0), -1);
            Check.same("average", x.average(shelf, 1, false, 0), -1);
            Check.same("weeks", x.weeks(shelf, 1, false, 0), -1);
            Check.same("owed", x.owed(shelf, 1, false, 0), -1);
            Check.same("chain", x.chain(shelf, 2, false, 0), -1);
            Check.same("link", x.link(shelf, 2, 0, false, 0), -1);
            Check.same("due", x.due(shelf, 2, false, 0), -1);
        }
        for (int worker : new int[] {-1, 1}) {
            Check.same("counted", x.counted(0, worker, 0, false, 0), -1);
            Check.same("empty", x.empty(0, worker, 0, false, 0), -1);
        }
        for (int week : new int[] {-1, 104}) {
            Check.same("counted", x.counted(0, 0, week, false, 0), -1);
            Check.same("empty", x.empty(0, 0, week, false, 0), -1);
        }
        for (int fact : new int[] {-1, 0, 2, 3, 250}) {
            Check.same("average", x.average(0, fact, false, 0), -1);
            Check.same("weeks", x.weeks(0, fact, false, 0), -1);
            Check.same("owed", x.owed(0, fact, false, 0), -1);
        }
        for (int fact : new int[] {-1, 0, 1, 3, 250}) {
            Check.same("chain", x.chain(0, fact, false, 0), -1);
            Check.same("link", x.link(0, fact, 0, false, 0), -1);
            Check.same("due", x.due(0, fact, false, 0), -1);
        }
        Check.same("link -1", x.link(0, 2, -1, false, 0), -1);
        Check.same("link 0", x.link(0, 2, 0, false, 0), 1);
        Check.same("link 1", x.link(0, 2, 1, false, 0), -1);
    }

    /** Only a HOLIDAY has an AVERAGE, only a CLAIM a CHAIN. */
    private static void otherFacts() {
        RestPay x = withWorker("counts base 100 when 1;", 1);
        x.pay(0, 0, 0, 500);
        x.lost(0, 1);
        x.bank(0, 2, 3, 0);
        x.holiday(0, 7, 5, 0);
        x.settle(0, 50, 51);
        x.claim(0, 50);
        for (int fact = 0; fact < 6; fact++) {
            Check.same("a chain first", x.chain(0, 5, false, 0), 1);
            Check.same("average of " + fact, x.average(0, fact, false, 0), fact == 3 ? 500 : -1);
            Check.same("weeks of " + fact, x.weeks(0, fact, false, 0), fact == 3 ? 1 : -1);
            Check.same("owed of " + fact, x.owed(0, fact, false, 0), fact == 3 ? 500 : -1);
            Check.same("a chain first", x.chain(0, 5, false, 0), 1);
            Check.same("link of " + fact, x.link(0, fact, 0, false, 0), fact == 5 ? 3 : -1);
            Check.same("chain of " + fact, x.chain(0, fact, false, 0), fact == 5 ? 1 : -1);
            Check.same("due of " + fact, x.due(0, fact, false, 0), fact == 5 ? 500 : -1);
        }
    }

    /** The numbers of an ACT that does not tell them. */
    private static void notTold() {
        RestPay x = withWorker("counts base 100 when 1; empty when base = 0;", 2);
        x.pay(0, 0, 0, 1);
        x.holiday(0, 100, 5, 0);
        x.holiday(0, 190, 5, 0);
        x.holiday(0, 727, 5, 0);
        x.claim(0, 280);
        x.claim(0, 281);
        x.claim(0, 817);
        Check.same("5 days, OWED of 1", x.owed(0, 1, false, 0), 1);
        Check.same("104 weeks back", x.weeks(0, 3, false, 0), 1);
        Check.same("90 days late, 90 days ahead", x.chain(0, 4, false, 0), 2);
        Check.same("91 days late", x.chain(0, 5, false, 0), 0);
        Check.same("two links", x.due(0, 4, false, 0), 2);
        RestPay y = withWorker("counts base 100 when 1; weeks 1;", 2);
        y.pay(0, 0, 0, 9999);
        y.holiday(0, 7, 20, 0);
        y.claim(0, 97);
        Check.same("no interest", y.due(0, 2, false, 0), 39996);
        Check.same("no interest", y.payout(0, 0, false, 0), 39996);
        Check.same("the last alone", x.chain(0, 6, false, 0), 1);
        x.holiday(0, 9, 5, 0);
        Check.same("91 days ahead", x.chain(0, 4, false, 0), 2);
        x.holiday(0, 10, 5, 0);
        Check.same("no stop", x.chain(0, 4, false, 0), 4);
        Check.act(x, 1, "counts base 100 when 1; empty when base = 0; back 103; stop 9999;", 4);
        Check.same("103 weeks back", x.weeks(1, 3, false, 0), 1);
        Check.act(x, 1, "counts base 100 when 1; empty when base = 0; back 102;", 3);
        Check.same("102 weeks back", x.weeks(1, 3, false, 0), 0);
        Check.act(x, 1, "interest 1;", 1);
        Check.same("an act without counts", x.owed(1, 1, false, 0), 0);
    }

    private static void chains() {
        RestPay x = withWorker("counts base 100 when 1; empty when base = 0; chain 10; late 20;", 4);
        x.worker(0, false);
        x.pay(0, 0, 0, 500);
        x.pay(1, 0, 0, 500);
        x.holiday(0, 30, 1, 0);
        x.holiday(0, 20, 1, 0);
        x.holiday(0, 9, 1, 0);
        x.holiday(0, 25, 1, 100);
        x.holiday(1, 28, 1, 0);
        x.claim(0, 50);
        Check.same("20 days late", x.chain(0, 7, false, 0), 2);
        Check.same("the last first", x.link(0, 7, 0, false, 0), 2);
        Check.same("10 days ahead", x.link(0, 7, 1, false, 0), 3);
        Check.same("11 days ahead", x.link(0, 7, 2, false, 0), -1);
        x.claim(0, 51);
        Check.same("21 days late", x.chain(0, 8, false, 0), 0);
        x.claim(0, 30);
        Check.same("on the day", x.chain(0, 9, false, 0), 2);
        x.claim(0, 29);
        Check.same("not what is behind", x.link(0, 10, 0, false, 0), 3);
        x.claim(0, 8);
        Check.same("nothing ahead", x.chain(0, 11, false, 0), 0);
        x.holiday(0, 15, 1, 0);
        Check.same("the gap is filled", x.chain(0, 7, false, 0), 4);
        x.later(1);
        x.untell(7);
        x.untell(12);
        Check.same("a claim as if it counted", x.chain(0, 7, false, 1), 2);
        Check.same("a holiday that does not", x.link(0, 7, 2, false, 1), -1);
        Check.same("as known before", x.chain(0, 7, false, 0), 4);
        x.settle(0, 30, 30);
        Check.same("barred: 30 days late", x.chain(0, 7, false, 1), 0);
        Check.same("barred: 10 days late", x.chain(0, 9, false, 1), 1);
    }

    private static void chainsByNumber() {
        RestPay x = withWorker("counts base 100 when 1; empty when base = 0;", 2);
        x.pay(0, 0, 0, 500);
        x.holiday(0, 30, 1, 0);
        x.holiday(0, 20, 1, 0);
        x.holiday(0, 30, 2, 0);
        x.holiday(0, 20, 2, 0);
        x.holiday(0, 25, 2, 0);
        x.claim(0, 120);
        int[] due = {3, 1, 5, 4, 2, -1};
        for (int n = 0; n < due.length; n++) {
            Check.same("link " + n, x.link(0, 6, n, false, 0), due[n]);
        }
    }

    private static void chainsCut() {
        RestPay x = withWorker("counts base 100 when 1; empty when base = 0; chain 15; late 100; stop 25;", 5);
        x.pay(0, 0, 0, 500);
        x.holiday(0, 30, 1, 0);
        x.holiday(0, 20, 1, 0);
        x.holiday(0, 15, 1, 0);
        x.claim(0, 45);
        Check.same("25 days", x.chain(0, 4, false, 0), 2);
        x.claim(0, 55);
        Check.same("the last one", x.link(0, 5, 0, false, 0), 1);
        Check.same("alone", x.chain(0, 5, false, 0), 1);
        x.claim(0, 56);
        Check.same("none", x.chain(0, 6, false, 0), 0);
        Check.act(x, 0, "counts base 100 when 1; stop 0;", 2);
        x.claim(0, 30);
        Check.same("stop 0", x.chain(0, 7, false, 0), 1);
        Check.act(x, 0, "counts base 100 when 1; late 0; chain 1;", 3);
        Check.same("late 0", x.chain(0, 7, false, 0), 1);
        Check.same("late 0 a day on", x.chain(0, 6, false, 0), 0);
    }

    private static void dues() {
        RestPay x = withWorker("counts base 100 when 1; empty when base = 0; days 1; interest 100; late 999; chain 999;", 6);
        x.pay(0, 0, 0, 1000);
        x.holiday(0, 35, 1, 0);
        x.holiday(0, 100, 2, 0);
        x.claim(0, 400);
        // 1000 * 100 * 365 / 365000 = 100; 2000 * 100 * 300 / 365000 = 164.38
        Check.same("each interest is cut", x.due(0, 3, false, 0), 1000 + 100 + 2000 + 164);
        x.claim(0, 100);
        // 1000 * 100 * 65 / 365000 = 17.8
        Check.same("no interest on the day", x.due(0, 4, false, 0), 1000 + 17 + 2000);
        x.claim(0, 34);
        Check.same("an empty chain", x.due(0, 5, false, 0), 0);
        Check.act(x, 1, "counts base 100 when 1; counts bonus 100 when 1; counts sales 100 when 1; counts travel 100 when 1;"
                + "counts overtime 100 when 1; weeks 1; days 1; interest 999; late 999;", 9);
        for (int kind = 0; kind < 5; kind++) {
            x.pay(0, 0, kind, 9999);
        }
        x.holiday(0, 7, 20, 0);
        x.claim(0, 999);
        Check.act(x, 1, "counts base 100 when 1; counts bonus 100 when 1; counts sales 100 when 1; counts travel 100 when 1;"
                + "counts overtime 100 when 1; empty when total = 0; weeks 1; days 1; interest 999; late 999; chain 999; back 5;", 12);
        // weeks 0 to 4 of the holiday on day 35: 49995 once and 1 day of it; then 999,900 on day 7
        long first = 49995 + 49995L * 999 * (999 - 35) / 365000;
        long most = 999900 + 999900L * 999 * (999 - 7) / 365000;
        Check.same("longs", x.due(1, 12, false, 0), first + most);
    }
}
