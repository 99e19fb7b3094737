import java.nio.charset.StandardCharsets;

/** What the tests share: counting wrong answers and putting texts on the TAPE. */
final class Check {
    private static int wrong = 0;
    private static int asked = 0;

    private Check() {
    }

    static void same(String what, long got, long due) {
        asked++;
        if (got != due) {
            wrong++;
            System.out.println(what + ": answered " + got + ", due is " + due);
        }
    }

    static void same(String what, boolean got, boolean due) {
        same(what, got ? 1 : 0, due ? 1 : 0);
    }

    static void holds(String what, boolean holds) {
        same(what, holds ? 1 : 0, 1);
    }

    /** Puts a text behind what is on the TAPE, byte for byte; all the calls must succeed. */
    static void put(RestPay office, String text) {
        int before = office.about(3);
        byte[] bytes = text.getBytes(StandardCharsets.ISO_8859_1);
        for (int i = 0; i < bytes.length; i += 20) {
            int[] five = new int[5];
            for (int j = 0; j < 20; j++) {
                int sign = i + j < bytes.length ? bytes[i + j] & 255 : ' ';
                five[j / 4] = five[j / 4] << 8 | sign;
            }
            same("feed for " + text, office.feed(five[0], five[1], five[2], five[3], five[4]), before + i + 20);
            same("end for " + text, office.end(Math.min(before + i + 20, before + bytes.length)),
                    Math.min(before + i + 20, before + bytes.length));
        }
    }

    /** The text is an ACT of so many lines on the SHELF. */
    static void act(RestPay office, int shelf, String text, int lines) {
        put(office, text);
        same("act of " + text, office.act(shelf), lines);
        same("no fault in " + text, office.fault(0), 0);
        same("no place in " + text, office.fault(1), -1);
    }

    /** The text has that FAULT at that place. */
    static void fault(String text, int fault, int place) {
        RestPay office = new RestPay();
        put(office, text);
        same("act of " + text, office.act(0), -1);
        same("fault of " + text, office.fault(0), fault);
        same("place in " + text, office.fault(1), place);
    }

    static String times(String text, int times) {
        StringBuilder all = new StringBuilder();
        for (int i = 0; i < times; i++) {
            all.append(text);
        }
        return all.toString();
    }

    static void end(String test) {
        System.out.println(test + ": " + asked + " answers, " + wrong + " wrong");
        if (wrong != 0) {
            System.exit(1);
        }
    }
}
