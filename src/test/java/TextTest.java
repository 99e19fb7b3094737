/** Promises 1 to 5 and 30, and the term ACTS: the TAPE, the texts and their FAULTS. */
public final class TextTest {
    public static void main(String[] args) {
        aNewObject();
        feedAndEnd();
        acts();
        faultsOfTokens();
        faultsOfPlace();
        faultsOfNumbers();
        limits();
        nesting();
        values();
        habits();
        Check.end("TextTest");
    }

    private static void aNewObject() {
        RestPay x = new RestPay();
        int[] whats = {-1, 4, 9, 14, 15, 100, Integer.MIN_VALUE, Integer.MAX_VALUE};
        for (int what : whats) {
            Check.same("about " + what, x.about(what), -1);
        }
        for (int what : new int[] {0, 1, 2, 3, 10, 11, 12, 13}) {
            Check.same("about " + what, x.about(what), 0);
        }
        Check.same("fault 0", x.fault(0), 0);
        Check.same("fault 1", x.fault(1), -1);
        Check.same("fault 2", x.fault(2), -1);
        Check.same("fault -1", x.fault(-1), -1);
        Check.same("no worker", x.payout(0, 0, false, 0), -1);
    }

    private static void feedAndEnd() {
        RestPay x = new RestPay();
        for (int i = 1; i <= 45; i++) {
            Check.same("feed " + i, x.feed(0, -1, 1, 2, 3), 20 * i);
        }
        Check.same("feed of a full tape", x.feed(0, 0, 0, 0, 0), -1);
        Check.same("bytes", x.about(3), 900);
        Check.same("end 901", x.end(901), -1);
        Check.same("end -1", x.end(-1), -1);
        Check.same("end 900", x.end(900), 900);
        Check.same("end 881", x.end(881), 881);
        Check.same("a feed that does not fit", x.feed(0, 0, 0, 0, 0), -1);
        Check.same("bytes", x.about(3), 881);
        Check.same("end 880", x.end(880), 880);
        Check.same("a feed that just fits", x.feed(0, 0, 0, 0, 0), 900);
        Check.same("end 0", x.end(0), 0);
        Check.same("end 1 of none", x.end(1), -1);
        Check.same("bytes", x.about(3), 0);
        // the highest byte first: "days", " 3; ", "back", " 4; ", "    "
        x.feed(0x64617973, 0x20333b20, 0x6261636b, 0x20343b20, 0x20202020);
        Check.same("two lines", x.act(3), 2);
        Check.same("lines of shelf 3", x.about(13), 2);
    }

    private static void acts() {
        RestPay x = new RestPay();
        Check.act(x, 0, "", 0);
        Check.act(x, 0, " \n \n", 0);
        Check.act(x, 0, "weeks 3;", 1);
        Check.same("the tape is empty then", x.about(3), 0);
        Check.put(x, "weeks 4;");
        Check.same("no shelf", x.act(-1), -2);
        Check.same("no shelf", x.act(4), -2);
        Check.same("the tape stays", x.about(3), 8);
        Check.same("the latest fault is not of these", x.fault(0), 0);
        Check.same("an act", x.act(1), 1);
        Check.put(x, "weeks 4;weeks 4;");
        Check.same("a fault", x.act(1), -1);
        Check.same("no shelf", x.act(9), -2);
        Check.same("its kind", x.fault(0), 2);
        Check.same("its place", x.fault(1), 8);
        Check.same("the old act stays", x.about(11), 1);
        Check.same("the tape does not", x.about(3), 0);
        Check.act(x, 1, "", 0);
        Check.same("no fault any more", x.fault(1), -1);
        Check.same("no lines any more", x.about(11), 0);
        Check.act(x, 2, "counts base 0 when 1;counts overtime 100 when not base;empty when(hours<1);weeks 52;back 104;"
                + "days 7;chain 999;late 0;stop 0;interest 999;", 10);
        Check.act(x, 2, "weeks\n1\n;back1;days 1;chain 1;late 999;stop 9999;interest 0;", 7);
        Check.act(x, 2, "empty when1 or(0)and not 2;", 1);
    }

    private static void faultsOfTokens() {
        Check.fault("weeks 3; &", 1, 9);
        Check.fault("Weeks 3;", 1, 0);
        Check.fault("weeks 3,", 1, 7);
        Check.fault("weeks\t3;", 1, 5);
        Check.fault("weeks" + (char) 225 + "3;", 1, 5);
        Check.fault("weeks 12345;", 1, 6);
        Check.fault("weeks 00003;", 1, 6);
        Check.fault("weeks 3x;", 1, 6);
        Check.fault("weeks 3X;", 1, 7);
        Check.fault("weeks 3z;", 1, 6);
        Check.fault("weeks 3a", 1, 6);
        Check.fault(Check.times(" ", 899) + "&", 1, 899);
        Check.fault(Check.times("a", 900), 1, 0);
        Check.fault(Check.times("9", 900), 1, 0);
        Check.fault("empty when 1or 2;", 1, 11);
        Check.fault("interests 3;", 1, 0);
        Check.fault("empty when overtimes;", 1, 11);
        Check.fault("empty when 1 !", 1, 13);
        Check.fault("& weeks", 1, 0);
        // at one place the least, of two places the first
        Check.fault("weeks 3; weeks 12345;", 2, 9);
        Check.fault("weeks 53 &", 4, 6);
        RestPay x = new RestPay();
        Check.act(x, 0, "weeks 0003;back 7;", 2);
    }

    private static void faultsOfPlace() {
        Check.fault("counts pay 5 when 1;", 2, 7);
        Check.fault("counts 5", 2, 7);
        Check.fault("counts base when 1;", 2, 12);
        Check.fault("counts base 5 if 1;", 2, 14);
        Check.fault("counts base 5 when ;", 2, 19);
        Check.fault("counts base 5 when 1", 2, 20);
        Check.fault("counts base 5 when 1  ", 2, 22);
        Check.fault("counts", 2, 6);
        Check.fault("empty 1;", 2, 6);
        Check.fault("empty when 1 2;", 2, 13);
        Check.fault("empty when 1 < 2 < 3;", 2, 17);
        Check.fault("empty when 1 + not 2;", 2, 15);
        Check.fault("empty when not 1 + not 2;", 2, 19);
        Check.fault("empty when (1;", 2, 13);
        Check.fault("empty when 1);", 2, 12);
        Check.fault("empty when ();", 2, 12);
        Check.fault("empty when -1;", 2, 11);
        Check.fault("empty when habit;", 2, 16);
        Check.fault("empty when habit hours;", 2, 17);
        Check.fault("empty when habit 1;", 2, 17);
        Check.fault("empty when weeks;", 2, 11);
        Check.fault("empty when 1 or;", 2, 15);
        Check.fault("empty when or 1;", 2, 11);
        Check.fault("weeks;", 2, 5);
        Check.fault("weeks 3", 2, 7);
        Check.fault("weeks 3 back 4;", 2, 8);
        Check.fault(";", 2, 0);
        Check.fault("3;", 2, 0);
        Check.fault("week 3;", 2, 0);
        Check.fault("when 0;", 2, 0);
        Check.fault("or 1;", 2, 0);
        Check.fault("base 1;", 2, 0);
        Check.fault("weeks 3;;", 2, 8);
        Check.fault("weeks base;", 2, 6);
        Check.fault("xounts base 1 when 1;", 2, 0);
        Check.fault("countx base 1 when 1;", 2, 0);
        Check.fault("count base 1 when 1;", 2, 0);
        Check.fault("empty when zero;", 2, 11);
        Check.fault("empty when basez;", 2, 11);
        Check.fault("empty when overtimz;", 2, 11);
        Check.fault(Check.times(";", 900), 2, 0);
        // a not takes the whole relation, and an and binds closer than an or
        RestPay x = new RestPay();
        Check.act(x, 0, "empty when not 1 = 2 and 1 or not not 0;", 1);
    }

    private static void faultsOfNumbers() {
        Check.fault("counts base 101 when 1;", 4, 12);
        Check.fault("counts base 9999 when 1;", 4, 12);
        Check.fault("weeks 0;", 4, 6);
        Check.fault("weeks 53;", 4, 6);
        Check.fault("back 0;", 4, 5);
        Check.fault("back 105;", 4, 5);
        Check.fault("days 0;", 4, 5);
        Check.fault("days 8;", 4, 5);
        Check.fault("chain 0;", 4, 6);
        Check.fault("chain 1000;", 4, 6);
        Check.fault("late 1000;", 4, 5);
        Check.fault("interest 1000;", 4, 9);
        Check.fault("weeks 0", 4, 6);
    }

    private static void limits() {
        RestPay x = new RestPay();
        String line = "counts base 1 when 1;";
        Check.act(x, 0, Check.times(line, 10) + "weeks 1;", 11);
        Check.fault(Check.times(line, 11), 2, 210);
        Check.fault(Check.times(line, 10) + "weeks 1; counts pay", 2, 219);
        for (String word : new String[] {"weeks", "back", "days", "chain", "late", "stop", "interest"}) {
            Check.fault(word + " 1; empty when 1; " + word + " 0;", 2, word.length() + 18);
        }
        Check.fault("empty when 1;empty when 1;", 2, 13);
        Check.act(x, 1, "empty when 1" + Check.times("+1", 79) + ";", 1);
        Check.fault("empty when 1" + Check.times("+1", 80) + ";", 2, 11 + 160);
        Check.fault("empty when 1" + Check.times("+1", 79) + ";counts base 1 when 1;", 2, 11 + 160 + 19);
        Check.act(x, 1, "empty when 1" + Check.times("+habit base", 79) + ";", 1);
        Check.fault("empty when 1" + Check.times("+1", 79) + "+habit base;", 2, 11 + 160);
        // the brackets are a unit too
        Check.act(x, 1, "empty when (1" + Check.times("+1", 78) + ");", 1);
        Check.fault("empty when (1" + Check.times("+1", 79) + ");", 2, 12 + 158);
        Check.fault("empty when 1" + Check.times("+1", 79) + "+(1);", 2, 11 + 160);
    }

    private static void nesting() {
        RestPay x = new RestPay();
        Check.act(x, 0, "empty when " + Check.times("(", 7) + "1" + Check.times(")", 7) + ";", 1);
        Check.fault("empty when " + Check.times("(", 8) + "1" + Check.times(")", 8) + ";", 2, 18);
        Check.act(x, 0, "empty when " + Check.times("not ", 7) + "1;", 1);
        Check.fault("empty when " + Check.times("not ", 8) + "1;", 2, 11 + 28);
        Check.act(x, 0, "empty when " + Check.times("(not ", 3) + "(1)" + Check.times(")", 3) + ";", 1);
        Check.fault("empty when " + Check.times("(not ", 3) + "((1))" + Check.times(")", 3) + ";", 2, 11 + 16);
        Check.fault("empty when " + Check.times("(not ", 3) + "(not 1)" + Check.times(")", 3) + ";", 2, 11 + 16);
        // what stands behind the others is not within them
        Check.act(x, 0, "empty when " + Check.times("(1)*", 20) + "1;counts base 1 when not 1 and not 1 and not 1 and not 1 and not 1 and not 1 and not 1 and not 1;", 2);
        Check.act(x, 0, "empty when " + Check.times("(", 6) + "(1)+(1)" + Check.times(")", 6) + ";", 1);
    }

    /** The value of an e shows in whether a WEEK is EMPTY. */
    private static void value(String e, int due) {
        RestPay x = new RestPay();
        x.worker(7, true);
        x.pay(0, 5, 0, 11);
        x.pay(0, 5, 1, 22);
        x.pay(0, 5, 2, 33);
        x.pay(0, 5, 3, 44);
        x.pay(0, 5, 4, 55);
        x.pay(0, 5, 5, 66);
        Check.act(x, 0, "empty when (" + e + ") = " + (due < 0 ? "0 - " + -due : due) + ";", 1);
        Check.same(e, x.empty(0, 0, 5, false, 0), 1);
        Check.act(x, 0, "empty when " + e + ";", 1);
        Check.same(e + " is not 0", x.empty(0, 0, 5, false, 0), due != 0 ? 1 : 0);
    }

    private static void values() {
        value("base", 11);
        value("overtime", 22);
        value("sales", 33);
        value("travel", 44);
        value("bonus", 55);
        value("hours", 66);
        value("total", 165);
        value("week", 5);
        value("place", 7);
        value("term", 1);
        value("1 - 2 - 3", -4);
        value("2 + 3 * 4", 14);
        value("(2 + 3) * 4", 20);
        value("7 / 2", 3);
        value("(0 - 7) / 2", -3);
        value("7 / 0", 0);
        value("7 / (1 - 1) + 2", 2);
        value("24 / 4 / 3", 2);
        value("1 < 2", 1);
        value("2 < 2", 0);
        value("3 > 2", 1);
        value("2 > 2", 0);
        value("2 = 2", 1);
        value("5 and 3", 1);
        value("5 and 0", 0);
        value("0 or 7", 1);
        value("0 or 0", 0);
        value("not 5", 0);
        value("not 0", 1);
        value("not 1 = 2", 1);
        value("not 0 and 0", 0);
        value("1 or 1 and 0", 1);
        value("(1 < 2) + (2 < 3)", 2);
        value("9999 * 9999 * 9999 < 0", 1);
        value("9999 * 9999 * 9999 / 9999 / 9999", -10);
        RestPay x = new RestPay();
        x.worker(0, false);
        Check.act(x, 0, "empty when term or place;", 1);
        Check.same("no term folk", x.empty(0, 0, 0, false, 0), 0);
    }

    private static void habits() {
        RestPay x = new RestPay();
        x.worker(0, false);
        for (int week = 0; week < 30; week++) {
            x.pay(0, week, 1, week == 20 ? 0 : 1);
        }
        int[] weeks = {0, 1, 11, 12, 13, 20, 21, 32, 33, 41, 42, 103};
        int[] due = {0, 1, 11, 12, 12, 12, 11, 9, 9, 1, 0, 0};
        for (int i = 0; i < weeks.length; i++) {
            Check.act(x, 0, "empty when habit overtime = " + due[i] + ";", 1);
            Check.same("habit at " + weeks[i], x.empty(0, 0, weeks[i], false, 0), 1);
        }
    }
}
