import java.util.Random;

/** Long runs of mixed calls on the class and on its Twin; every answer must be the same. */
public final class TwinTest {
    private static final int RUNS = 120;
    private static final int CALLS = 512;
    private static final String[] KINDS = {"base", "overtime", "sales", "travel", "bonus"};
    private static final String[] LEAVES = {"hours", "total", "week", "place", "term"};

    private final Random dice;
    private final RestPay office = new RestPay();
    private final Twin twin = new Twin();
    private final int run;
    private final int weeks;
    private final int folk;
    private int call = 0;

    private TwinTest(int run) {
        this.run = run;
        dice = new Random(run);
        weeks = run % 4 == 0 ? 104 : 2 + dice.nextInt(run % 4 == 1 ? 20 : 6);
        folk = 1 + dice.nextInt(run % 3 == 0 ? 10 : 4);
    }

    public static void main(String[] args) {
        int runs = args.length > 0 ? Integer.parseInt(args[0]) : RUNS;
        for (int run = 0; run < runs; run++) {
            new TwinTest(run).go();
        }
        Check.end("TwinTest");
    }

    private void go() {
        while (call < CALLS - 60) {
            int n = dice.nextInt(100);
            if (n < 1 || call < 30) {
                putText();
            } else if (n < (call < 200 ? 85 : 25)) {
                tell();
            } else {
                ask();
            }
        }
    }

    private void same(String what, long got, long due) {
        call++;
        Check.same("run " + run + " call " + call + ": " + what, got, due);
    }

    private int pick(int... numbers) {
        return numbers[dice.nextInt(numbers.length)];
    }

    private boolean rarely() {
        return dice.nextInt(25) == 0;
    }

    // ---- texts

    private void putText() {
        String text = text();
        if (dice.nextInt(4) == 0) {
            text = spoil(text);
        }
        if (text.length() > 900) {
            text = text.substring(0, 900);
        }
        for (int i = 0; i < text.length(); i += 20) {
            int[] f = new int[5];
            for (int j = 0; j < 20; j++) {
                f[j / 4] = f[j / 4] << 8 | (i + j < text.length() ? text.charAt(i + j) : 32);
            }
            same("feed", office.feed(f[0], f[1], f[2], f[3], f[4]), twin.feed(f));
        }
        int n = twin.tape.length() > 0 ? text.length() : 0;
        same("end", office.end(n), twin.end(n));
        int shelf = rarely() ? pick(-1, 4) : dice.nextInt(4);
        same("act " + text, office.act(shelf), twin.act(shelf));
        same("fault 0 " + text, office.fault(0), twin.fault(0));
        same("fault 1 " + text, office.fault(1), twin.fault(1));
    }

    private String spoil(String text) {
        StringBuilder spoilt = new StringBuilder(text);
        for (int i = 1 + dice.nextInt(2); i > 0 && spoilt.length() > 0; i--) {
            int at = dice.nextInt(spoilt.length());
            switch (dice.nextInt(5)) {
                case 0 -> spoilt.deleteCharAt(at);
                case 1 -> spoilt.insert(at, " ;()<>=+-*/&A{9a\n\t".charAt(dice.nextInt(18)));
                case 2 -> spoilt.insert(at, new String[] {" not", " 12345", " counts", " when ", " (", " overtimes"}[dice.nextInt(6)]);
                case 3 -> spoilt.setLength(at);
                default -> spoilt.setCharAt(at, (char) dice.nextInt(256));
            }
        }
        return spoilt.toString();
    }

    private String text() {
        StringBuilder text = new StringBuilder();
        int lines = dice.nextInt(20) == 0 ? 11 : 2 + dice.nextInt(7);
        for (int i = 0; i < lines; i++) {
            String kind = KINDS[i == 0 ? 0 : dice.nextInt(5)];
            text.append("counts ").append(kind).append(' ').append(pick(100, 50, 33, 0, dice.nextInt(101)));
            text.append(" when ").append(dice.nextInt(4) > 0 ? "1" : e(2)).append(';');
        }
        if (dice.nextInt(3) > 0) {
            text.append("empty when ").append(dice.nextBoolean() ? "total = 0" : e(2)).append(';');
        }
        String[] names = {"weeks", "back", "days", "chain", "late", "stop", "interest"};
        int[] least = {1, 1, 1, 1, 0, 0, 0};
        int[] most = {15, 30, 7, 60, 200, 300, 999};
        for (int i = 0; i < 7; i++) {
            if (dice.nextInt(4) == 0) {
                text.append(names[i]).append(' ').append(least[i] + dice.nextInt(most[i])).append(dice.nextBoolean() ? ";" : " ; \n");
            }
        }
        if (rarely()) {
            text.append(names[dice.nextInt(7)]).append(' ').append(dice.nextInt(10000)).append(';');
        }
        if (rarely()) {
            text.append("empty when ").append("(".repeat(dice.nextInt(9))).append("not ".repeat(dice.nextInt(8))).append("1;");
        }
        if (rarely()) {
            text.append("empty when 1").append("+1".repeat(60 + dice.nextInt(20))).append(";");
        }
        return text.toString();
    }

    private String e(int depth) {
        String[] joins = {" or ", " and ", " < ", ">", "=", "+", "-", "*", "/"};
        if (depth == 0 || dice.nextInt(4) == 0) {
            return switch (dice.nextInt(5)) {
                case 0 -> String.valueOf(pick(0, 1, 2, 5, 100, 9999, dice.nextInt(10000)));
                case 1 -> KINDS[dice.nextInt(5)];
                case 2 -> "habit " + KINDS[dice.nextInt(5)];
                default -> LEAVES[dice.nextInt(5)];
            };
        }
        if (dice.nextInt(6) == 0) {
            return "(not " + e(depth - 1) + ")";
        }
        String inner = e(depth - 1) + joins[dice.nextInt(joins.length)] + e(depth - 1);
        return dice.nextInt(12) > 0 ? "(" + inner + ")" : inner;
    }

    // ---- facts

    private int aWorker() {
        return rarely() ? pick(-1, 10, twin.workers.size()) : dice.nextInt(Math.max(1, twin.workers.size()));
    }

    private int aWeek() {
        return rarely() ? pick(-1, 104) : dice.nextInt(weeks);
    }

    private int aFact(String sort) {
        if (rarely()) {
            return dice.nextInt(260) - 5;
        }
        for (int i = 0; i < 60; i++) {
            int n = dice.nextInt(Math.max(1, twin.facts.size()));
            if (n < twin.facts.size() && twin.facts.get(n).sort.equals(sort)) {
                return n;
            }
        }
        return dice.nextInt(260) - 5;
    }

    private int aTime() {
        return switch (dice.nextInt(8)) {
            case 0 -> pick(-1, 0, Integer.MIN_VALUE, Integer.MAX_VALUE);
            case 1, 2 -> dice.nextInt(twin.time + 2);
            default -> twin.time;
        };
    }

    private void tell() {
        int w = aWorker();
        int a = aWeek();
        int day = rarely() ? pick(-1, 727, 728, 999, 1000) : 7 + dice.nextInt(Math.min(720, 7 * weeks + 20));
        int n = dice.nextInt(100);
        if (n < 1 || twin.workers.size() < Math.min(folk, 10)) {
            int place = rarely() ? pick(-1, 10) : dice.nextInt(10);
            boolean term = dice.nextBoolean();
            same("worker", office.worker(place, term), twin.worker(place, term));
        } else if (n < 45) {
            int what = rarely() ? pick(-1, 5, 6) : dice.nextInt(6);
            int many = rarely() ? pick(-1, 9999, 10000, 99, 100) : what == 5 ? dice.nextInt(100) : pick(0, dice.nextInt(800), dice.nextInt(10000));
            same("pay", office.pay(w, a, what, many), twin.pay(w, a, what, many));
        } else if (n < 57) {
            same("lost", office.lost(w, a), twin.lost(w, a));
        } else if (n < 67) {
            int b = dice.nextInt(4) == 0 ? a : aWeek();
            int total = rarely() ? pick(-1, 1000000, 999999) : aTotal(w, a, b);
            same("bank", office.bank(w, a, b, total), twin.bank(w, a, b, total));
        } else if (n < 80) {
            int days = rarely() ? pick(0, 20, 21) : 1 + dice.nextInt(20);
            int paid = rarely() ? pick(-1, 99999, 100000) : dice.nextInt(pick(1, 100, 300));
            same("holiday", office.holiday(w, day, days, paid), twin.holiday(w, day, days, paid));
        } else if (n < 83) {
            int to = rarely() ? day - 1 : day + dice.nextInt(20);
            same("settle", office.settle(w, day, to), twin.settle(w, day, to));
        } else if (n < 92) {
            int on = rarely() ? day : Math.min(999, day + dice.nextInt(60));
            same("claim", office.claim(w, on), twin.claim(w, on));
        } else if (n < 96) {
            int fact = dice.nextInt(twin.facts.size() + 3) - 1;
            same("untell", office.untell(fact) ? 1 : 0, twin.untell(fact) ? 1 : 0);
        } else {
            int by = rarely() ? pick(-1, 1000, 1001) : dice.nextInt(4);
            same("later", office.later(by), twin.later(by));
        }
    }

    /** Often a total that can be, so that not all BANKS quarrel. */
    private int aTotal(int w, int a, int b) {
        if (w < 0 || w >= twin.workers.size() || a < 0 || b < a || b > 103 || dice.nextInt(4) == 0) {
            return dice.nextInt(20000);
        }
        int total = 0;
        for (int week = a; week <= b; week++) {
            int low = twin.span(w, week, false, twin.time);
            int high = twin.span(w, week, true, twin.time);
            total += low + dice.nextInt(high - low + 1);
            total += all(w, week) - (low == high ? low : 0);
        }
        return Math.min(999999, Math.max(0, total));
    }

    private int all(int w, int week) {
        int[] paid = new int[6];
        for (Twin.Fact f : twin.facts) {
            if (f.sort.equals("pay") && f.worker == w && f.a == week && !f.gone) {
                paid[f.b] = f.c;
            }
            if (f.sort.equals("lost") && f.worker == w && f.a == week && !f.gone) {
                return 0;
            }
        }
        return paid[0] + paid[1] + paid[2] + paid[3] + paid[4];
    }

    // ---- questions

    private int aShelf() {
        int s = dice.nextInt(4);
        return twin.shelves[s].lines > 0 ? s : dice.nextInt(4);
    }

    private void ask() {
        int s = rarely() ? pick(-1, 4) : aShelf();
        int s2 = rarely() ? pick(-1, 4) : dice.nextInt(4);
        int w = aWorker();
        int week = aWeek();
        boolean high = dice.nextBoolean();
        int k = aTime();
        int rest = aFact("holiday");
        int claim = aFact("claim");
        int t = rarely() ? pick(-1, 10, 11) : dice.nextInt(4);
        int n = dice.nextInt(4) - (rarely() ? 1 : 0);
        switch (dice.nextInt(18)) {
            case 0, 16 -> same("span", office.span(w, week, high, k), twin.span(w, week, high, k));
            case 1 -> same("quarrel", office.quarrel(w, k), twin.quarrel(w, k));
            case 2 -> same("counted", office.counted(s, w, week, high, k), twin.counted(s, w, week, high, k));
            case 3 -> same("empty", office.empty(s, w, week, high, k), twin.empty(s, w, week, high, k));
            case 4 -> same("average", office.average(s, rest, high, k), twin.average(s, rest, high, k));
            case 5 -> same("weeks", office.weeks(s, rest, high, k), twin.weeks(s, rest, high, k));
            case 6 -> same("owed", office.owed(s, rest, high, k), twin.owed(s, rest, high, k));
            case 7 -> same("chain", office.chain(s, claim, high, k), twin.chain(s, claim, high, k));
            case 8 -> same("link", office.link(s, claim, n, high, k), twin.link(s, claim, n, high, k));
            case 9 -> same("due", office.due(s, claim, high, k), twin.due(s, claim, high, k));
            case 10 -> same("payout", office.payout(s, w, high, k), twin.payout(s, w, high, k));
            case 11 -> same("quarrels", office.quarrels(s, s2, high, k), twin.quarrels(s, s2, high, k));
            case 12 -> same("marks", office.marks(s, w, high, k), twin.marks(s, w, high, k));
            case 13 -> same("tests", office.tests(s, t, high, k), twin.tests(s, t, high, k));
            case 14 -> same("settles", office.settles(s, t, high, k), twin.settles(s, t, high, k));
            case 15 -> {
                int what = dice.nextInt(16) - 1;
                same("about " + what, office.about(what), twin.about(what));
            }
            default -> same("fault", office.fault(n), twin.fault(n));
        }
    }
}
