import static java.lang.Integer.MAX_VALUE;
import static java.lang.Integer.MIN_VALUE;

/** Terms 1 and promises 1 to 5 and 30: every sentence quoted, with calls at its edge and beside it. */
final class TextEdges {
    private static final String[] KINDS = {"base", "overtime", "sales", "travel", "bonus"};
    private static final String[] NUMBERS = {"weeks", "back", "days", "chain", "late", "stop", "interest"};
    private static final int[] LEAST = {1, 1, 1, 1, 0, 0, 0};
    private static final int[] MOST = {52, 104, 7, 999, 999, 9999, 999};

    private TextEdges() {
    }

    static void run() {
        aNewObject();
        feedOrder();
        feedFull();
        endCuts();
        endRefused();
        actLines();
        actFaults();
        actWithoutShelf();
        faultOfTheLatest();
        faultOfAnotherWhat();
        about();
        aboutAnother();
        bytesAndShelves();
        lines();
        kinds();
        ors();
        ands();
        ones();
        sums();
        terms();
        units();
        words();
        numbers();
        signs();
        blanks();
        longTokens();
        lettersBehindNumbers();
        tenCounts();
        percents();
        once();
        numberLines();
        notTold();
        eightyUnits();
        nested();
        firstByPlace();
        leastAtOnePlace();
        misplaced();
        badNumbers();
        wrapping();
        cutTowardsZero();
        truths();
        ofAWeek();
        habits();
        countsByFirstLine();
        emptyWeeks();
    }

    // ---- promises 1 to 5 and 30

    private static void aNewObject() {
        Check.sentence("Promise 1", "Empty SHELVES, no WORKERS.");
        RestPay x = new RestPay();
        Check.same("workers", x.about(0), 0);
        Check.same("no worker 0", x.payout(0, 0, false, 0), -1);
        Check.same("no worker 0", x.quarrel(0, 0), -2);
        Check.same("no fact 0", x.untell(0), false);
        Check.same("no fault", x.fault(0), 0);
        Check.same("no place", x.fault(1), -1);
        Check.same("the first worker", x.worker(0, false), 0);
        x.pay(0, 0, 0, 500);
        for (int shelf = 0; shelf < 4; shelf++) {
            Check.same("lines of " + shelf, x.about(10 + shelf), 0);
            Check.same("nothing counts", x.counted(shelf, 0, 0, false, 0), 0);
            Check.same("nothing is empty", x.empty(shelf, 0, 1, false, 0), 0);
        }
        RestPay other = new RestPay();
        Check.same("another object has no workers", other.about(0), 0);
        Check.same("nor facts", other.about(1), 0);
    }

    /** A feed of blanks but for one sign. */
    private static int feedSign(RestPay x, int place, int sign) {
        int[] five = {0x20202020, 0x20202020, 0x20202020, 0x20202020, 0x20202020};
        int shift = 24 - place % 4 * 8;
        five[place / 4] = five[place / 4] & ~(255 << shift) | sign << shift;
        return x.feed(five[0], five[1], five[2], five[3], five[4]);
    }

    private static void feedOrder() {
        Check.sentence("Promise 2", "Twenty bytes come behind those on the TAPE, of each number the highest first: how many there are");
        for (int place = 0; place < 20; place++) {
            for (int sign : new int[] {0, 1, '&', 127, 128, 255}) {
                RestPay x = new RestPay();
                Check.same("the first twenty", feedSign(x, place, sign), 20);
                x.act(0);
                Check.same("no token " + sign, x.fault(0), 1);
                Check.same("place of " + sign, x.fault(1), place);
            }
            RestPay x = new RestPay();
            Check.same("the first twenty", feedSign(x, 0, ' '), 20);
            Check.same("the second twenty", feedSign(x, place, '&'), 40);
            Check.same("the third twenty", feedSign(x, place, '&'), 60);
            x.act(0);
            Check.same("behind those on the tape", x.fault(1), 20 + place);
        }
    }

    private static void feedFull() {
        Check.sentence("Promise 2", "NONE, and nothing comes, if there would be more than 900.");
        RestPay x = new RestPay();
        Check.put(x, "weeks 7;");
        x.end(8);
        for (int i = 0; i < 43; i++) {
            Check.same("feed", feedSign(x, 0, ' '), 28 + 20 * i);
        }
        x.end(861);
        Check.same("to 881", feedSign(x, 0, ' '), 881);
        Check.refused(x, "to 901", () -> feedSign(x, 0, '&'), -1);
        x.end(880);
        Check.same("to 900", feedSign(x, 0, ' '), 900);
        Check.refused(x, "to 920", () -> feedSign(x, 0, '&'), -1);
        x.end(899);
        Check.refused(x, "to 919", () -> feedSign(x, 0, '&'), -1);
        x.end(881);
        Check.refused(x, "to 901", () -> feedSign(x, 0, '&'), -1);
        Check.same("nothing came", x.act(0), 1);
        Check.same("from the beginning again", feedSign(x, 0, ' '), 20);
    }

    private static void endCuts() {
        Check.sentence("Promise 3", "The TAPE has its first n bytes: n;");
        String text = "weeks 7;days 3;&&&&&";
        int[] lines = {0, -1, -1, -1, -1, -1, -1, -1, 1, -1, -1, -1, -1, -1, -1, 2, -1, -1, -1, -1, -1};
        for (int n = 0; n <= 20; n++) {
            RestPay x = new RestPay();
            Check.put(x, text);
            Check.same("end " + n, x.end(n), n);
            Check.same("bytes", x.about(3), n);
            Check.same("end again", x.end(n), n);
            Check.same("act of " + n, x.act(0), lines[n]);
        }
        RestPay x = new RestPay();
        Check.put(x, text);
        x.end(15);
        Check.same("a feed behind the first 15", feedSign(x, 3, ';'), 35);
        x.act(0);
        Check.same("misplaced", x.fault(0), 2);
        Check.same("at 18", x.fault(1), 18);
    }

    private static void endRefused() {
        Check.sentence("Promise 3", "NONE, doing nothing, if it has not so many, or n is below 0.");
        RestPay x = new RestPay();
        Check.refused(x, "1 of none", () -> x.end(1), -1);
        Check.refused(x, "-1 of none", () -> x.end(-1), -1);
        Check.same("0 of none", x.end(0), 0);
        Check.put(x, "weeks 7;            ");
        for (int n : new int[] {21, 900, 901, MAX_VALUE, -1, -20, MIN_VALUE}) {
            Check.refused(x, "end " + n, () -> x.end(n), -1);
        }
        Check.same("end 20", x.end(20), 20);
        Check.same("end 9", x.end(9), 9);
        Check.refused(x, "end 10", () -> x.end(10), -1);
        Check.same("still the text", x.act(0), 1);
        RestPay full = new RestPay();
        Check.put(full, Check.times(" ", 900));
        Check.refused(full, "end 901", () -> full.end(901), -1);
        Check.same("end 900", full.end(900), 900);
        Check.same("end 0", full.end(0), 0);
        Check.refused(full, "end 1", () -> full.end(1), -1);
    }

    /** All lines that an ACT can have: 10 of counts, empty and the seven numbers. */
    private static String allLines() {
        return Check.times("counts base 1 when 1;", 10) + "empty when 0;weeks 1;back 1;days 1;chain 1;late 1;stop 1;interest 1;";
    }

    private static void actLines() {
        Check.sentence("Promise 4", "The TAPE (empty then) is the ACT of a SHELF: how many lines;");
        RestPay x = new RestPay();
        Check.same("the empty tape", x.act(0), 0);
        Check.act(x, 0, "weeks 3;", 1);
        Check.same("the tape then", x.about(3), 0);
        Check.same("the empty tape is an act too", x.act(0), 0);
        Check.same("that is on the shelf", x.about(10), 0);
        for (int shelf = 0; shelf < 4; shelf++) {
            Check.act(x, shelf, Check.times("counts base 1 when 1;", shelf + 1), shelf + 1);
        }
        for (int shelf = 0; shelf < 4; shelf++) {
            Check.same("lines of " + shelf, x.about(10 + shelf), shelf + 1);
        }
        Check.act(x, 3, allLines(), 18);
        Check.same("lines of 3", x.about(13), 18);
        Check.same("the tape then", x.about(3), 0);
    }

    private static void actFaults() {
        Check.sentence("Promise 4", "NONE: a FAULT (it stays);");
        RestPay x = new RestPay();
        x.worker(0, false);
        x.pay(0, 0, 0, 100);
        Check.act(x, 2, "counts base 50 when 1;", 1);
        for (String text : new String[] {"weeks 3;&", "weeks 3;;", "weeks 3;back 0;", "counts base 100 when 1"}) {
            Check.put(x, text);
            Check.same("act of " + text, x.act(2), -1);
            Check.same("the act stays", x.about(12), 1);
            Check.same("with what it says", x.counted(2, 0, 0, false, 0), 50);
            Check.same("the tape is empty then", x.about(3), 0);
        }
        Check.put(x, "&");
        Check.same("a fault for an empty shelf", x.act(0), -1);
        Check.same("it stays empty", x.about(10), 0);
    }

    private static void actWithoutShelf() {
        Check.sentence("Promise 4", "-2, and the TAPE stays, if there is no such SHELF.");
        RestPay x = new RestPay();
        Check.put(x, "weeks 3;");
        for (int shelf : new int[] {-1, 4, -2, 10, MAX_VALUE, MIN_VALUE}) {
            Check.refused(x, "shelf " + shelf, () -> x.act(shelf), -2);
        }
        Check.same("shelf 3", x.act(3), 1);
        Check.put(x, "&");
        Check.refused(x, "a text with a fault, shelf 4", () -> x.act(4), -2);
        Check.same("shelf 0", x.act(0), -1);
        Check.refused(x, "the empty tape, shelf 4", () -> x.act(4), -2);
        Check.refused(x, "the empty tape, shelf -1", () -> x.act(-1), -2);
    }

    private static void faultOfTheLatest() {
        Check.sentence("Promise 5", "Of the latest act() that was not -2 what 0: its FAULT (0), 1: its place (NONE).");
        RestPay x = new RestPay();
        String[] texts = {"weeks 3;&", "", "weeks 3;;;", "weeks 3;", "weeks 53;", "&"};
        int[] faults = {1, 0, 2, 0, 4, 1};
        int[] places = {8, -1, 8, -1, 6, 0};
        for (int i = 0; i < texts.length; i++) {
            Check.put(x, texts[i]);
            Check.same("not of what was fed", x.fault(0), i == 0 ? 0 : faults[i - 1]);
            Check.same("not of an act that was -2", x.act(4), -2);
            Check.same("the fault before", x.fault(0), i == 0 ? 0 : faults[i - 1]);
            Check.same("the place before", x.fault(1), i == 0 ? -1 : places[i - 1]);
            x.act(i % 4);
            Check.same("the fault of " + texts[i], x.fault(0), faults[i]);
            Check.same("the place in " + texts[i], x.fault(1), places[i]);
        }
    }

    private static void faultOfAnotherWhat() {
        Check.sentence("Promise 5", "NONE for another what.");
        RestPay x = new RestPay();
        for (int round = 0; round < 2; round++) {
            for (int what : new int[] {-1, 2, 3, MAX_VALUE, MIN_VALUE}) {
                Check.same("what " + what, x.fault(what), -1);
            }
            Check.put(x, "weeks 3;;");
            x.act(0);
        }
    }

    private static void about() {
        Check.sentence("Promise 30", "What 0: WORKERS, 1: FACTS, 2: the TIME, 3: bytes on the TAPE, 10 + s: lines of SHELF s.");
        RestPay x = new RestPay();
        x.worker(0, false);
        x.worker(0, false);
        x.lost(0, 0);
        x.lost(1, 0);
        x.lost(1, 1);
        x.untell(1);
        x.later(4);
        Check.act(x, 0, Check.times("counts base 1 when 1;", 6), 6);
        Check.act(x, 1, Check.times("counts base 1 when 1;", 7), 7);
        Check.act(x, 2, Check.times("counts base 1 when 1;", 8), 8);
        Check.act(x, 3, Check.times("counts base 1 when 1;", 9), 9);
        Check.put(x, "weeks");
        int[] whats = {0, 1, 2, 3, 10, 11, 12, 13};
        int[] due = {2, 3, 4, 5, 6, 7, 8, 9};
        for (int i = 0; i < whats.length; i++) {
            Check.same("about " + whats[i], x.about(whats[i]), due[i]);
        }
    }

    private static void aboutAnother() {
        Check.sentence("Promise 30", "NONE for another what.");
        RestPay x = new RestPay();
        x.worker(0, false);
        for (int what : new int[] {-1, 4, 5, 9, 14, 15, MAX_VALUE, MIN_VALUE, MIN_VALUE + 9, -10}) {
            Check.same("about " + what, x.about(what), -1);
        }
        for (int what : new int[] {3, 10, 13}) {
            Check.same("about " + what, x.about(what), 0);
        }
    }

    // ---- Terms 1: texts

    private static void bytesAndShelves() {
        Check.sentence("Terms 1", "ACTS are texts of at most 900 bytes on SHELVES 0 .. 3 (empty at first)");
        String line = "weeks 3;";
        Check.reads(Check.times(" ", 891) + line, 1);
        Check.reads(Check.times(" ", 892) + line, 1);
        Check.fault(Check.times(" ", 893) + line.substring(0, 7), 2, 900);
        Check.fault(Check.times(" ", 892) + "weeks 3", 2, 899);
        RestPay x = new RestPay();
        Check.put(x, Check.times(" ", 892) + line);
        Check.refused(x, "a 901st byte", () -> feedSign(x, 0, ' '), -1);
        Check.same("shelf -1", x.act(-1), -2);
        Check.same("shelf 4", x.act(4), -2);
        for (int shelf = 0; shelf < 4; shelf++) {
            Check.same("empty at first", x.about(10 + shelf), 0);
        }
        Check.same("shelf 3", x.act(3), 1);
        Check.same("shelf 0", x.act(0), 0);
    }

    /**
     * The tokens joined by blanks are an ACT of one line; without its end there is a FAULT at the end,
     * and a word that can't stand anywhere is one at the place of the token that it takes.
     */
    private static void isLine(String... tokens) {
        Check.reads(String.join(" ", tokens), 1);
        StringBuilder ahead = new StringBuilder();
        for (int i = 0; i < tokens.length; i++) {
            if (i > 0) {
                Check.fault(ahead.toString().trim(), 2, ahead.length() - 1);
                Check.fault(ahead.toString(), 2, ahead.length());
            }
            Check.fault(ahead + "nothing ;", 2, ahead.length());
            Check.fault(ahead + (tokens[i].equals("when") ? "weeks" : "when"), 2, ahead.length());
            ahead.append(tokens[i]).append(' ');
        }
        Check.reads(ahead + "\n", 1);
        Check.fault(ahead + ";", 2, ahead.length());
        Check.fault(ahead + "1", 2, ahead.length());
    }

    private static void lines() {
        Check.sentence("Terms 1", "act = {line}.");
        Check.reads("", 0);
        Check.reads(" \n ", 0);
        Check.reads("weeks 3;", 1);
        Check.reads("weeks 3;back 3;", 2);
        Check.reads(allLines(), 18);
        Check.fault(";", 2, 0);
        Check.fault("weeks 3;;", 2, 8);
        for (String word : new String[] {"when", "or", "and", "not", "base", "bonus", "hours", "total", "week", "place", "term",
            "habit", "count", "xounts", "emptys", "xmpty", "empt", "a", "1", "(", ")", "<", ">", "=", "+", "-", "*", "/"}) {
            Check.fault(" " + word + " 1;", 2, 1);
        }
        Check.sentence("Terms 1", "line = counts KIND N when e ;  |  empty when e ;  |"
                + "  (weeks | back | days | chain | late | stop | interest) N ;.");
        isLine("counts", "base", "5", "when", "1", ";");
        isLine("empty", "when", "1", ";");
        for (String word : NUMBERS) {
            isLine(word, "1", ";");
        }
        Check.fault("weeks -1;", 2, 6);
        Check.fault("weeks (1);", 2, 6);
        Check.fault("weeks 1+1;", 2, 7);
        Check.fault("counts base (5) when 1;", 2, 12);
        Check.fault("counts 5 base when 1;", 2, 7);
        Check.fault("counts when 1;", 2, 7);
        Check.fault("empty base 5 when 1;", 2, 6);
    }

    private static void kinds() {
        Check.sentence("Terms 1", "KIND = base | overtime | sales | travel | bonus (0 .. 4).");
        for (int kind = 0; kind < 5; kind++) {
            RestPay x = new RestPay();
            x.worker(0, false);
            for (int what = 0; what < 6; what++) {
                x.pay(0, 0, what, what + 1);
            }
            Check.act(x, 0, "counts " + KINDS[kind] + " 100 when 1;", 1);
            Check.same(KINDS[kind], x.counted(0, 0, 0, false, 0), kind + 1);
        }
        for (String other : new String[] {"hours", "total", "week", "place", "term", "habit", "basement", "bas", "sale"}) {
            Check.fault("counts " + other + " 5 when 1;", 2, 7);
        }
    }

    /** An e is that number, in WEEK 5 of a worker at place 7 of term folk. */
    private static void value(String e, int due) {
        RestPay x = new RestPay();
        x.worker(7, true);
        for (int what = 0; what < 6; what++) {
            x.pay(0, 5, what, 11 * (what + 1));
        }
        Check.act(x, 0, "empty when (" + e + ") = (" + number(due) + ");", 1);
        Check.same(e, x.empty(0, 0, 5, false, 0), 1);
        Check.act(x, 0, "empty when " + e + ";", 1);
        Check.same(e + " is not 0", x.empty(0, 0, 5, false, 0), due != 0 ? 1 : 0);
    }

    /** An e for any int, though an N has four digits at most and no sign. */
    private static String number(int due) {
        if (due == MIN_VALUE) {
            return number(-MAX_VALUE) + " - 1";
        }
        if (due < 0) {
            return "0 - (" + number(-due) + ")";
        }
        if (due <= 9999) {
            return String.valueOf(due);
        }
        return "(" + (due >> 26) + " * 8192 + " + (due >> 13 & 8191) + ") * 8192 + " + (due & 8191);
    }

    private static void ors() {
        Check.sentence("Terms 1", "e = both {or both}.");
        value("0", 0);
        value("3", 3);
        value("0 or 0", 0);
        value("0 or 3", 1);
        value("3 or 0", 1);
        value("0 or 0 or 0", 0);
        value("0 or 0 or 4", 1);
        value("1 or 1 and 0", 1);
        value("(1 or 1) and 0", 0);
        value("0 and 1 or 1", 1);
        Check.fault("empty when or 1;", 2, 11);
        Check.fault("empty when 1 or;", 2, 15);
        Check.fault("empty when 1 or or 1;", 2, 16);
    }

    private static void ands() {
        Check.sentence("Terms 1", "both = one {and one}.");
        value("2 and 3", 1);
        value("2 and 0", 0);
        value("0 and 2", 0);
        value("1 and 1 and 1", 1);
        value("1 and 1 and 0", 0);
        value("not 0 and 0", 0);
        value("0 and not 0", 0);
        value("1 < 2 and 3 > 2", 1);
        Check.fault("empty when and 1;", 2, 11);
        Check.fault("empty when 1 and;", 2, 16);
        Check.fault("empty when 1 and and 1;", 2, 17);
    }

    private static void ones() {
        Check.sentence("Terms 1", "one = not one | sum [(< | > | =) sum].");
        value("not 0", 1);
        value("not 1", 0);
        value("not not 5", 1);
        value("not 1 = 2", 1);
        value("not 2 - 2", 1);
        value("1 < 2", 1);
        value("2 < 2", 0);
        value("3 < 2", 0);
        value("1 > 2", 0);
        value("2 > 2", 0);
        value("3 > 2", 1);
        value("1 = 2", 0);
        value("2 = 2", 1);
        value("3 = 2", 0);
        value("1 + 1 = 3 - 1", 1);
        value("0 - 1 < 0", 1);
        value("0 - 1 > 0", 0);
        Check.fault("empty when 1 < 2 < 3;", 2, 17);
        Check.fault("empty when 1 = 2 > 3;", 2, 17);
        Check.fault("empty when 1 < ;", 2, 15);
        Check.fault("empty when < 1;", 2, 11);
        Check.fault("empty when 1 < not 2;", 2, 15);
        Check.fault("empty when not;", 2, 14);
        Check.fault("empty when 1 not 2;", 2, 13);
        Check.fault("empty when 1 << 2;", 2, 14);
    }

    private static void sums() {
        Check.sentence("Terms 1", "sum = term {(+ | -) term}.");
        value("1 + 2", 3);
        value("1 - 2", -1);
        value("9 - 3 - 2", 4);
        value("9 - (3 - 2)", 8);
        value("9 - 3 + 2", 8);
        value("2 + 3 * 4", 14);
        value("2 * 3 + 4", 10);
        Check.fault("empty when + 1;", 2, 11);
        Check.fault("empty when - 1;", 2, 11);
        Check.fault("empty when 1 + ;", 2, 15);
        Check.fault("empty when 1 - - 1;", 2, 15);
        Check.fault("empty when 1 + not 1;", 2, 15);
    }

    private static void terms() {
        Check.sentence("Terms 1", "term = unit {(* | /) unit}.");
        value("2 * 3", 6);
        value("7 / 2", 3);
        value("24 / 4 / 3", 2);
        value("24 / (4 / 3)", 24);
        value("7 / 2 * 2", 6);
        value("7 * 2 / 2", 7);
        Check.fault("empty when * 1;", 2, 11);
        Check.fault("empty when 1 / ;", 2, 15);
        Check.fault("empty when 1 * / 1;", 2, 15);
        Check.fault("empty when 2 3;", 2, 13);
    }

    private static void units() {
        Check.sentence("Terms 1", "unit = N | KIND | hours | total | week | place | term | habit KIND | ( e ).");
        value("9999", 9999);
        value("0", 0);
        value("0000", 0);
        for (int kind = 0; kind < 5; kind++) {
            value(KINDS[kind], 11 * (kind + 1));
            value("habit " + KINDS[kind], 0);
        }
        value("hours", 66);
        value("total", 165);
        value("week", 5);
        value("place", 7);
        value("term", 1);
        value("(((4)))", 4);
        value("(1 or 0) + (2 < 3)", 2);
        for (String word : new String[] {"weeks", "back", "days", "chain", "late", "stop", "interest", "counts", "empty",
            "when", "hour", "xours", "terms", "places", "xlace", "xase", "basx", "x"}) {
            Check.fault("empty when " + word + ";", 2, 11);
        }
        Check.fault("empty when habit;", 2, 16);
        Check.fault("empty when habit hours;", 2, 17);
        Check.fault("empty when habit term;", 2, 17);
        Check.fault("empty when habit (base);", 2, 17);
        Check.fault("empty when habit habit base;", 2, 17);
        Check.fault("empty when ();", 2, 12);
        Check.fault("empty when (1;", 2, 13);
        Check.fault("empty when 1);", 2, 12);
        Check.fault("empty when (1));", 2, 14);
        Check.fault("empty when (1", 2, 13);
        Check.fault("empty when (1 2);", 2, 14);
    }

    // ---- Terms 1: TOKENS

    private static void words() {
        Check.sentence("Terms 1", "TOKENS: words (a .. z, 8 at most)");
        Check.reads("interest 1;", 1);
        Check.reads("counts overtime 1 when overtime;", 1);
        Check.fault("interes 1;", 2, 0);
        Check.fault("interess 1;", 2, 0);
        Check.fault("interests 1;", 1, 0);
        Check.fault("empty when overtimes;", 1, 11);
        for (int letters = 1; letters <= 10; letters++) {
            Check.fault("weeks 1; " + Check.times("q", letters), letters <= 8 ? 2 : 1, 9);
        }
        Check.fault("a", 2, 0);
        Check.fault("z", 2, 0);
        Check.fault("`", 1, 0);
        Check.fault("{", 1, 0);
        Check.fault("A", 1, 0);
        Check.fault("Z", 1, 0);
        Check.fault("week` 1;", 2, 0);
        Check.fault("weeks` 1;", 1, 5);
        Check.fault("weeks{ 1;", 1, 5);
        Check.fault("weeks_ 1;", 1, 5);
        Check.fault("weeKs 1;", 2, 0);
        Check.fault(Check.times("z", 900), 1, 0);
    }

    private static void numbers() {
        Check.sentence("Terms 1", "N (1 to 4 digits)");
        Check.reads("stop 0;", 1);
        Check.reads("stop 9;", 1);
        Check.reads("stop 9999;", 1);
        Check.reads("stop 0000;", 1);
        Check.reads("weeks 0052;", 1);
        Check.fault("stop 10000;", 1, 5);
        Check.fault("stop 00000;", 1, 5);
        Check.fault("stop 00001;", 1, 5);
        Check.fault("empty when 1 + 99999;", 1, 15);
        Check.fault("stop ;", 2, 5);
        Check.fault("stop 9:", 1, 6);
        Check.fault("stop 9.", 1, 6);
        Check.fault("stop 9/", 2, 6);
        Check.fault("stop 4294967297;", 1, 5);
        Check.fault(Check.times("0", 900), 1, 0);
    }

    private static void signs() {
        Check.sentence("Terms 1", "signs ; ( ) < > = + - * /;");
        for (int sign = 0; sign < 256; sign++) {
            String text = String.valueOf((char) sign);
            boolean token = sign >= 'a' && sign <= 'z' || sign >= '0' && sign <= '9' || ";()<>=+-*/".contains(text);
            if (sign == 32 || sign == 10) {
                Check.reads(text, 0);
            } else {
                Check.fault(text, token ? 2 : 1, 0);
                Check.fault("weeks 3;" + text, token ? 2 : 1, 8);
            }
        }
        value("(1<2)+(2>1)+(2=2)*3-4/2", 3);
    }

    private static void blanks() {
        Check.sentence("Terms 1", "blanks (32, 10) part them or not;");
        Check.reads("weeks 3;", 1);
        Check.reads("weeks3;", 1);
        Check.reads("\nweeks\n3\n;\n", 1);
        Check.reads("  weeks  3  ;  ", 1);
        Check.reads("weeks3;back4;empty when(1)or(base<2)and not(3);", 3);
        Check.reads("counts base5 when(1);", 1);
        Check.fault("we eks 3;", 2, 0);
        Check.fault("weeks 1 2;", 2, 8);
        for (char c : new char[] {9, 11, 13, 31, 33, 160, 0}) {
            Check.fault("weeks" + c + "3;", 1, 5);
            Check.fault("weeks 3;" + c, 1, 8);
        }
    }

    private static void longTokens() {
        Check.sentence("Terms 1", "each is as long as can be;");
        Check.fault("weekss 3;", 2, 0);
        Check.fault("emptywhe 1;", 2, 0);
        Check.fault("emptywhen 1;", 1, 0);
        Check.fault("countsbase 5 when 1;", 1, 0);
        Check.fault("empty when weekweek;", 2, 11);
        Check.fault("empty when notbase;", 2, 11);
        Check.fault("weeks 53;", 4, 6);
        value("12 - 1", 11);
        value("habit base+base", 11);
        RestPay x = new RestPay();
        x.worker(0, false);
        x.holiday(0, 727, 1, 0);
        Check.act(x, 0, "weeks 13;", 1);
        Check.same("thirteen, not one", x.weeks(0, 0, false, 0), 13);
    }

    private static void lettersBehindNumbers() {
        Check.sentence("Terms 1", "no letter directly behind an N.");
        Check.fault("weeks 3a;", 1, 6);
        Check.fault("weeks 3z;", 1, 6);
        Check.fault("weeks 03a", 1, 6);
        Check.fault("empty when 1or 1;", 1, 11);
        Check.fault("empty when 1and 1;", 1, 11);
        Check.fault("counts base 5when 1;", 1, 12);
        Check.fault("weeks 3`;", 1, 7);
        Check.fault("weeks 3{;", 1, 7);
        Check.reads("empty when 1 or 1;", 1);
        Check.reads("empty when 1\nor 1;", 1);
        Check.reads("empty when(1)or 1;", 1);
        Check.reads("weeks3;", 1);
        Check.fault("weeks 3", 2, 7);
    }

    // ---- Terms 1: limits

    private static void tenCounts() {
        Check.sentence("Terms 1", "At most 10 counts lines");
        String line = "counts base 1 when 1;";
        Check.reads(Check.times(line, 9), 9);
        Check.reads(Check.times(line, 10), 10);
        Check.fault(Check.times(line, 11), 2, 10 * line.length());
        Check.reads(Check.times(line, 5) + "weeks 1;" + Check.times(line, 5) + "back 1;", 12);
        Check.fault(Check.times(line, 5) + "weeks 1;" + Check.times(line, 6), 2, 10 * line.length() + 8);
        RestPay x = new RestPay();
        x.worker(0, false);
        x.pay(0, 0, 0, 100);
        Check.act(x, 0, Check.times("counts base 1 when 0;", 9) + "counts base 70 when 1;", 10);
        Check.same("by the tenth line", x.counted(0, 0, 0, false, 0), 70);
    }

    private static void percents() {
        Check.sentence("Terms 1", "(N 0 .. 100)");
        RestPay x = new RestPay();
        x.worker(0, false);
        x.pay(0, 0, 0, 9999);
        int[] percents = {0, 1, 99, 100};
        int[] due = {0, 99, 9899, 9999};
        for (int i = 0; i < percents.length; i++) {
            Check.act(x, 0, "counts base " + percents[i] + " when 1;", 1);
            Check.same("by " + percents[i], x.counted(0, 0, 0, false, 0), due[i]);
        }
        Check.fault("counts base 101 when 1;", 4, 12);
        Check.fault("counts base 9999 when 1;", 4, 12);
        Check.fault("counts base -1 when 1;", 2, 12);
    }

    private static void once() {
        Check.sentence("Terms 1", "the others once each:");
        for (String word : NUMBERS) {
            Check.reads(word + " 1;", 1);
            Check.fault(word + " 1;" + word + " 1;", 2, word.length() + 3);
            Check.fault(word + " 1;empty when 1;" + word, 2, word.length() + 16);
        }
        Check.fault("empty when 1;empty when 1;", 2, 13);
        Check.reads("interest 1;stop 1;late 1;chain 1;days 1;back 1;weeks 1;empty when 1;", 8);
    }

    private static void numberLines() {
        Check.sentence("Terms 1", "weeks 1 .. 52");
        edgesOf(0);
        Check.sentence("Terms 1", "back 1 .. 104");
        edgesOf(1);
        Check.sentence("Terms 1", "days 1 .. 7");
        edgesOf(2);
        Check.sentence("Terms 1", "chain 1 .. 999");
        edgesOf(3);
        Check.sentence("Terms 1", "late 0 .. 999");
        edgesOf(4);
        Check.sentence("Terms 1", "stop 0 .. 9999");
        edgesOf(5);
        Check.sentence("Terms 1", "interest 0 .. 999");
        edgesOf(6);
    }

    private static void edgesOf(int which) {
        String word = NUMBERS[which];
        for (int n : new int[] {LEAST[which], LEAST[which] + 1, MOST[which] - 1, MOST[which]}) {
            Check.reads(word + " " + n + ";", 1);
        }
        if (LEAST[which] > 0) {
            Check.fault(word + " 0;", 4, word.length() + 1);
        }
        if (MOST[which] < 9999) {
            Check.fault(word + " " + (MOST[which] + 1) + ";", 4, word.length() + 1);
            Check.fault(word + " 9999;", 4, word.length() + 1);
        } else {
            Check.fault(word + " " + (MOST[which] + 1) + ";", 1, word.length() + 1);
        }
    }

    /** An office with one worker, a base of 365 in WEEK 0 alone, the others empty, and more lines. */
    private static RestPay officeBy(String lines) {
        RestPay x = new RestPay();
        x.worker(0, false);
        x.pay(0, 0, 0, 365);
        Check.act(x, 0, "counts base 100 when 1;empty when base=0;" + lines, 2 + lines.length() - lines.replace(";", "").length());
        return x;
    }

    private static void notTold() {
        Check.sentence("Terms 1", "weeks 1 .. 52 (12 if not told)");
        for (String lines : new String[] {"", "weeks 11;", "weeks 12;", "weeks 13;"}) {
            RestPay x = new RestPay();
            x.worker(0, false);
            x.holiday(0, 727, 1, 0);
            Check.act(x, 0, lines, lines.isEmpty() ? 0 : 1);
            Check.same("weeks by " + lines, x.weeks(0, 0, false, 0), lines.isEmpty() ? 12 : Integer.parseInt(lines.substring(6, 8)));
        }
        Check.sentence("Terms 1", "back 1 .. 104 (104)");
        for (String lines : new String[] {"", "back 104;", "back 103;", "back 102;"}) {
            RestPay x = officeBy(lines);
            x.holiday(0, 727, 5, 0);
            Check.same("owed by " + lines, x.owed(0, 1, false, 0), lines.equals("back 102;") ? 0 : 365);
        }
        Check.sentence("Terms 1", "days 1 .. 7 (5)");
        int[] byDays = {365, 365, 182, 121, 91, 73, 60, 52};
        for (int days = 0; days <= 7; days++) {
            RestPay x = officeBy(days == 0 ? "" : "days " + days + ";");
            x.holiday(0, 7, 1, 0);
            Check.same("owed by days " + days, x.owed(0, 1, false, 0), days == 0 ? 73 : byDays[days]);
        }
        chainNotTold();
        Check.sentence("Terms 1", "interest 0 .. 999 (0)");
        for (int interest : new int[] {-1, 0, 1, 999}) {
            RestPay x = officeBy("late 999;" + (interest < 0 ? "" : "interest " + interest + ";"));
            x.holiday(0, 7, 20, 0);
            x.claim(0, 7 + 365);
            Check.same("due by interest " + interest, x.due(0, 2, false, 0), 1460 + Math.max(0, interest) * 1460 / 1000);
        }
    }

    private static void chainNotTold() {
        Check.sentence("Terms 1", "chain 1 .. 999 (90)");
        for (int chain : new int[] {0, 1, 89, 90, 91, 720}) {
            int days = chain == 0 ? 90 : chain;
            RestPay x = officeBy(chain == 0 ? "" : "chain " + chain + ";");
            x.holiday(0, 7, 5, 0);
            x.holiday(0, 7 + days, 5, 0);
            x.claim(0, 7 + days);
            Check.same("chain " + chain, x.chain(0, 3, false, 0), 2);
            if (days < 720) {
                x.untell(2);
                x.holiday(0, 8 + days, 5, 0);
                x.claim(0, 8 + days);
                Check.same("a day more than chain " + chain, x.chain(0, 5, false, 0), 1);
            }
        }
        Check.sentence("Terms 1", "late 0 .. 999 (90)");
        for (int late : new int[] {-1, 0, 1, 89, 90, 91, 991, 992, 999}) {
            int days = late < 0 ? 90 : late;
            RestPay x = officeBy(late < 0 ? "" : "late " + late + ";");
            x.holiday(0, 7, 5, 0);
            x.claim(0, Math.min(999, 7 + days));
            x.claim(0, Math.min(999, 8 + days));
            Check.same("late " + late, x.chain(0, 2, false, 0), 1);
            Check.same("a day more than late " + late, x.chain(0, 3, false, 0), days < 992 ? 0 : 1);
        }
        Check.sentence("Terms 1", "stop 0 .. 9999 (9999)");
        for (int stop : new int[] {-1, 0, 1, 991, 992, 9999}) {
            RestPay x = officeBy("late 999;" + (stop < 0 ? "" : "stop " + stop + ";"));
            x.holiday(0, 7, 5, 0);
            x.claim(0, stop < 0 ? 999 : Math.min(999, 7 + stop));
            x.claim(0, stop < 0 ? 999 : Math.min(999, 8 + stop));
            Check.same("stop " + stop, x.chain(0, 2, false, 0), 1);
            Check.same("a day more than stop " + stop, x.chain(0, 3, false, 0), stop < 0 || stop >= 992 ? 1 : 0);
        }
    }

    private static void eightyUnits() {
        Check.sentence("Terms 1", "80 units in all (habit KIND is one);");
        Check.reads("empty when 1" + Check.times("+1", 78) + ";", 1);
        Check.reads("empty when 1" + Check.times("+1", 79) + ";", 1);
        Check.fault("empty when 1" + Check.times("+1", 80) + ";", 2, 11 + 160);
        Check.reads("empty when 1" + Check.times("+habit base", 79) + ";", 1);
        Check.fault("empty when 1" + Check.times("+habit base", 80) + ";", 2, 11 + 1 + 79 * 11 + 1);
        // a unit ( e ) is one beside those in it
        Check.reads("empty when " + Check.times("(1)+", 39) + "1+1;", 1);
        Check.reads("empty when " + Check.times("(1)+", 39) + "(1);", 1);
        Check.fault("empty when " + Check.times("(1)+", 39) + "(1+1);", 2, 11 + 4 * 39 + 3);
        Check.fault("empty when " + Check.times("(1)+", 40) + "1;", 2, 11 + 4 * 40);
        // in all lines together
        String line = "counts base 1 when " + "1+1+1+1+1+1+1+1;";
        Check.reads(Check.times(line, 10), 10);
        Check.fault(Check.times(line, 10) + "empty when 1;", 2, 10 * line.length() + 11);
        Check.fault(Check.times(line, 9) + "counts base 1 when 1+1+1+1+1+1+1+1+1;", 2, 9 * line.length() + 19 + 16);
        // of each ACT for itself
        RestPay x = new RestPay();
        for (int shelf = 0; shelf < 4; shelf++) {
            Check.act(x, shelf, "empty when 1" + Check.times("+1", 79) + ";", 1);
        }
        Check.put(x, "empty when 1" + Check.times("+1", 80) + ";");
        Check.same("an 81st", x.act(0), -1);
        Check.act(x, 0, "empty when 1" + Check.times("+1", 79) + ";", 1);
        // what is no unit is not counted
        Check.reads("empty when not 1" + Check.times(" or not 1", 79) + ";", 1);
        Check.reads("weeks 3;back 3;counts base 5 when 1" + Check.times("+1", 79) + ";", 3);
    }

    private static void nested() {
        Check.sentence("Terms 1", "a unit ( e ), or a one behind not, within 6 others at most.");
        for (int n = 6; n <= 8; n++) {
            String brackets = "empty when " + Check.times("(", n) + "1" + Check.times(")", n) + ";";
            String nots = "empty when " + Check.times("not ", n) + "1;";
            if (n <= 7) {
                Check.reads(brackets, 1);
                Check.reads(nots, 1);
            } else {
                Check.fault(brackets, 2, 11 + 7);
                Check.fault(nots, 2, 11 + 28);
            }
        }
        Check.reads("empty when not(not(not(not 1)));", 1);
        Check.fault("empty when not(not(not(not(1))));", 2, 11 + 15);
        Check.fault("empty when not(not(not(not not 1)));", 2, 11 + 16);
        Check.reads("empty when (not(not(not(1))));", 1);
        Check.fault("empty when (not(not(not((1)))));", 2, 11 + 13);
        Check.fault("empty when (not(not(not(not 1))));", 2, 11 + 13);
        // what stands beside is not within
        Check.reads("empty when ((((((" + "(1)+(1)" + "))))));", 1);
        Check.reads("empty when " + Check.times("(1)or not 1 and ", 12) + "1;", 1);
        Check.fault("empty when ((((((" + "(1)+((1))" + "))))));", 2, 11 + 6 + 5);
        // the innermost unit that is no ( e ) may be within 7
        Check.reads("empty when (((((((habit base+1<2 or 3 and 4)))))));", 1);
        Check.fault("empty when (((((((not 1)))))));", 2, 18);
    }

    // ---- Terms 1: FAULTS

    private static void firstByPlace() {
        Check.sentence("Terms 1", "FAULTS, the first by its place (bytes from 0; the end: the text's length)");
        Check.fault("&", 1, 0);
        Check.fault(" &", 1, 1);
        Check.fault("\n\n&", 1, 2);
        Check.fault("weeks", 2, 5);
        Check.fault("weeks  ", 2, 7);
        Check.fault("weeks\n", 2, 6);
        Check.fault("counts base 5 when 1", 2, 20);
        Check.fault("weeks 53; &", 4, 6);
        Check.fault("weeks 53 &", 4, 6);
        Check.fault("weeks; & 99999", 2, 5);
        Check.fault("& weeks 53;", 1, 0);
        Check.fault("weeks 3; weeks 53; &", 2, 9);
        Check.fault("weeks 3; back 0; weeks 3;", 4, 14);
        Check.fault("weeks 3 & back 0;", 1, 8);
        Check.fault(Check.times(" ", 895) + "weeks", 2, 900);
        Check.fault(Check.times(" ", 899) + "&", 1, 899);
        Check.fault(Check.times(" ", 899) + ";", 2, 899);
    }

    private static void leastAtOnePlace() {
        Check.sentence("Terms 1", "at one place the least:");
        // no TOKEN, where none could stand either
        Check.fault("12345;", 1, 0);
        Check.fault("weeks 3 12345;", 1, 8);
        Check.fault("weeks 12345;", 1, 6);
        Check.fault("empty when 1" + Check.times("+1", 79) + "+99999;", 1, 11 + 160);
        // a number that can't be, where no number can stand
        Check.fault("weeks 3 9999;", 2, 8);
        Check.fault("9999;", 2, 0);
        Check.fault("counts 101 when 1;", 2, 7);
        Check.fault("empty 9999;", 2, 6);
        Check.sentence("Terms 1", "1 no TOKEN;");
        Check.fault("weeks 3; #", 1, 9);
        Check.fault("weeks 3; abcdefghi", 1, 9);
        Check.fault("weeks 3; abcdefgh", 2, 9);
    }

    private static void misplaced() {
        Check.sentence("Terms 1", "2 one that can't stand there (an 11th counts line, another a second time: at its first word;");
        String line = "counts base 1 when 1;";
        Check.fault(Check.times(line, 10) + "  " + line, 2, 212);
        Check.fault(Check.times(line, 10) + "counts", 2, 210);
        Check.fault(Check.times(line, 10) + "counts 99999", 2, 210);
        Check.fault("weeks 3; weeks 99;", 2, 9);
        Check.fault("weeks 3; weeks", 2, 9);
        Check.fault("weeks 3; weeks &", 2, 9);
        Check.fault("empty when 1; empty", 2, 14);
        Check.fault("empty when 1; empty &", 2, 14);
        Check.sentence("Terms 1", "an 81st unit, what is within 7 others: at its first TOKEN, or the not);");
        String eighty = "empty when 1" + Check.times("+1", 79);
        Check.fault(eighty + "+habit base;", 2, 11 + 160);
        Check.fault(eighty + "+habit &", 2, 11 + 160);
        Check.fault(eighty + "+(1);", 2, 11 + 160);
        Check.fault(eighty + "+base;", 2, 11 + 160);
        Check.fault(eighty + " and not base;", 2, 11 + 159 + 9);
        Check.fault(eighty + " and not (base);", 2, 11 + 159 + 9);
        Check.fault("empty when (((((((  (1)))))))));", 2, 20);
        Check.fault("empty when (((((((  not 1)))))));", 2, 20);
        Check.fault("empty when (((((((1+(1))))))));", 2, 20);
        Check.fault("empty when (((((((1 and not 1)))))));", 2, 24);
        Check.fault("empty when not not not not not not not not", 2, 39);
        Check.fault("empty when not not not not not not not (&", 2, 39);
        Check.fault("empty when ((((((((", 2, 18);
    }

    private static void badNumbers() {
        Check.sentence("Terms 1", "4 a number that can't be.");
        Check.fault("counts base 101", 4, 12);
        Check.reads("counts base 100 when 101;", 1);
        for (int i = 0; i < NUMBERS.length; i++) {
            if (MOST[i] < 9999) {
                Check.fault("  " + NUMBERS[i] + "\n" + (MOST[i] + 1), 4, NUMBERS[i].length() + 3);
            }
        }
        // any N can stand in an e
        Check.reads("empty when 0 + 9999;", 1);
    }

    // ---- Terms 1: what an e is

    private static void wrapping() {
        Check.sentence("Terms 1", "Ints, wrapping;");
        value(number(MAX_VALUE), MAX_VALUE);
        value("(" + number(MAX_VALUE) + ") + 1", MIN_VALUE);
        value("(" + number(MAX_VALUE) + ") + 1 < 0", 1);
        value("(" + number(MIN_VALUE) + ") - 1", MAX_VALUE);
        value("0 - (" + number(MIN_VALUE) + ")", MIN_VALUE);
        value("(" + number(MIN_VALUE) + ") / (0 - 1)", MIN_VALUE);
        value("8192 * 8192 * 31", 8192 * 8192 * 31);
        value("8192 * 8192 * 32", MIN_VALUE);
        value("8192 * 8192 * 64", 0);
        value("8192 * 8192 * 64 or 0", 0);
        value("not 8192 * 8192 * 64", 1);
        value("9999 * 9999 * 9999", 9999 * 9999 * 9999);
        value("9999 * 9999 * 9999 * base * total", 9999 * 9999 * 9999 * 11 * 165);
    }

    private static void cutTowardsZero() {
        Check.sentence("Terms 1", "/ is cut towards 0 (by 0: 0);");
        value("6 / 3", 2);
        value("5 / 3", 1);
        value("2 / 3", 0);
        value("(0 - 2) / 3", 0);
        value("(0 - 3) / 3", -1);
        value("(0 - 5) / 3", -1);
        value("5 / (0 - 3)", -1);
        value("(0 - 5) / (0 - 3)", 1);
        value("5 / 0", 0);
        value("0 / 0", 0);
        value("5 / (base - 11)", 0);
        value("5 / (base - 10)", 5);
        value("5 / (base - 12)", -5);
        value("(" + number(MIN_VALUE) + ") / 0", 0);
        value("7 / 0 + 3", 3);
    }

    private static void truths() {
        Check.sentence("Terms 1", "relations, and, or, not are 1 or 0, of what is not 0.");
        value("(7 > 3) + (3 < 7) + (7 = 7)", 3);
        value("(3 > 7) + (7 < 3) + (7 = 3)", 0);
        value("7 and 5", 1);
        value("0 - 1 and 0 - 1", 1);
        value("0 or 0 - 1", 1);
        value("0 or 9", 1);
        value("not 9", 0);
        value("not 0", 1);
        value("not 0 - 1", 0);
        value("2 and 1", 1);
        value("2 / 3 or 0", 0);
        value(number(MIN_VALUE) + " and 1", 1);
        value("(" + number(MIN_VALUE) + ") < " + "(" + number(MAX_VALUE) + ")", 1);
        value("(" + number(MAX_VALUE) + ") > " + "(" + number(MIN_VALUE) + ")", 1);
    }

    private static int emptyBy(RestPay x, int worker, int week, String e) {
        Check.act(x, 0, "empty when " + e + ";", 1);
        return x.empty(0, worker, week, false, 0);
    }

    private static void ofAWeek() {
        Check.sentence("Terms 1", "Of a WEEK of a worker: KIND: what was paid of it; hours; total: all KINDS; week: its number; place;"
                + " term: 1 for term folk, else 0;");
        RestPay x = new RestPay();
        x.worker(0, false);
        x.worker(9, true);
        x.pay(0, 0, 0, 9999);
        x.pay(0, 103, 4, 9999);
        for (int what = 0; what < 5; what++) {
            x.pay(1, 103, what, 9999);
        }
        x.pay(1, 103, 5, 99);
        Check.same("place 0, no term", emptyBy(x, 0, 0, "place = 0 and term = 0"), 1);
        Check.same("place 9, term", emptyBy(x, 1, 0, "place = 9 and term = 1"), 1);
        Check.same("week 0", emptyBy(x, 0, 0, "week = 0 and base = 9999 and total = 9999 and bonus = 0"), 1);
        Check.same("week 103", emptyBy(x, 0, 103, "week = 103 and base = 0 and total = 9999 and bonus = 9999"), 1);
        Check.same("not of another worker", emptyBy(x, 1, 0, "total or hours"), 0);
        Check.same("not of another week", emptyBy(x, 1, 102, "total or hours"), 0);
        Check.same("hours are not in the total", emptyBy(x, 1, 103, "total / 5 = 9999 and total - total / 5 * 5 = 0 and hours = 99"), 1);
    }

    private static void habits() {
        Check.sentence("Terms 1", "habit KIND: in how many of the 12 WEEKS ahead of it (less, if there are less) that KIND is above 0.");
        RestPay x = new RestPay();
        x.worker(0, false);
        for (int week = 0; week < 26; week++) {
            x.pay(0, week, 3, 1);
        }
        x.pay(0, 24, 3, 0);
        x.pay(0, 91, 2, 1);
        int[] weeks = {0, 1, 2, 11, 12, 13, 24, 25, 26, 36, 37, 38};
        int[] due = {0, 1, 2, 11, 12, 12, 12, 11, 11, 1, 1, 0};
        for (int i = 0; i < weeks.length; i++) {
            Check.same("habit in " + weeks[i], emptyBy(x, 0, weeks[i], "habit travel = " + due[i]), 1);
        }
        Check.same("not its own week", emptyBy(x, 0, 91, "habit sales"), 0);
        Check.same("the week behind", emptyBy(x, 0, 92, "habit sales = 1"), 1);
        Check.same("12 weeks behind", emptyBy(x, 0, 103, "habit sales = 1"), 1);
        Check.same("not another kind", emptyBy(x, 0, 13, "habit sales or habit base or habit overtime or habit bonus"), 0);
        RestPay y = new RestPay();
        y.worker(0, false);
        y.pay(0, 10, 4, 1);
        y.pay(0, 0, 0, 1);
        Check.same("12 weeks ahead", emptyBy(y, 0, 22, "habit bonus = 1"), 1);
        Check.same("13 weeks ahead", emptyBy(y, 0, 23, "habit bonus = 0"), 1);
        for (int week = 0; week <= 13; week++) {
            Check.same("week 0 from " + week, emptyBy(y, 0, week, "habit base"), week >= 1 && week <= 12 ? 1 : 0);
        }
    }

    private static void countsByFirstLine() {
        Check.sentence("Terms 1", "A KIND COUNTS by N of a hundred (cut), N of the first counts line of it whose e is not 0; 0 without.");
        RestPay x = new RestPay();
        x.worker(0, false);
        x.pay(0, 0, 0, 99);
        x.pay(0, 1, 0, 100);
        x.pay(0, 2, 0, 101);
        x.pay(0, 3, 0, 199);
        x.pay(0, 4, 1, 199);
        Check.act(x, 0, "counts base 1 when 1;", 1);
        int[] due = {0, 1, 1, 1, 0};
        for (int week = 0; week < 5; week++) {
            Check.same("by 1 of a hundred in " + week, x.counted(0, 0, week, false, 0), due[week]);
        }
        Check.act(x, 0, "counts overtime 3 when 1; counts base 0 when week = 2; counts base 50 when week - 3; counts base 100 when 1;", 4);
        int[] byLines = {49, 50, 0, 199, 5};
        for (int week = 0; week < 5; week++) {
            Check.same("by the first line in " + week, x.counted(0, 0, week, false, 0), byLines[week]);
        }
        Check.act(x, 0, "counts base 100 when week > 2;", 1);
        Check.same("no line holds", x.counted(0, 0, 2, false, 0), 0);
        Check.same("one holds", x.counted(0, 0, 3, false, 0), 199);
        Check.same("no line of that kind", x.counted(0, 0, 4, false, 0), 0);
    }

    private static void emptyWeeks() {
        Check.sentence("Terms 1", "A WEEK is EMPTY if the e of empty is not 0 (none without that line).");
        RestPay x = new RestPay();
        x.worker(0, false);
        int[] due = {1, 0, 1};
        for (int week = 0; week < 3; week++) {
            Check.same("e of " + (week - 1), emptyBy(x, 0, week, "week - 1"), due[week]);
        }
        Check.act(x, 0, "counts base 100 when 1;", 1);
        for (int week : new int[] {0, 1, 103}) {
            Check.same("without the line", x.empty(0, 0, week, false, 0), 0);
            Check.same("on an empty shelf", x.empty(1, 0, week, false, 0), 0);
        }
        Check.same("every week", emptyBy(x, 0, 103, "1"), 1);
        Check.same("no week", emptyBy(x, 0, 103, "0"), 0);
    }
}
