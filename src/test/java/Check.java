import java.nio.charset.StandardCharsets;
import java.util.Arrays;
import java.util.function.LongSupplier;

/** What the tests share: counting wrong answers and putting texts on the TAPE. */
final class Check {
    private static int wrong = 0;
    private static int asked = 0;
    private static String sentence = "";

    private Check() {
    }

    /** What is asked from here on holds this sentence of the document, word for word. */
    static void sentence(String where, String words) {
        sentence = "[" + where + ": " + words + "] ";
        Document.quote(where, words);
    }

    static void same(String what, long got, long due) {
        asked++;
        if (got != due) {
            wrong++;
            System.out.println(sentence + what + ": answered " + got + ", due is " + due);
        }
    }

    static void same(String what, boolean got, boolean due) {
        same(what, got ? 1 : 0, due ? 1 : 0);
    }

    static void holds(String what, boolean holds) {
        same(what, holds ? 1 : 0, 1);
    }

    /** The call is refused with that answer, and nothing that can be asked about is other than before. */
    static void refused(RestPay office, String what, LongSupplier call, long due) {
        long[] before = state(office);
        same(what, call.getAsLong(), due);
        holds(what + " does nothing", Arrays.equals(before, state(office)));
    }

    private static long[] state(RestPay x) {
        return new long[] {x.about(0), x.about(1), x.about(2), x.about(3), x.about(10), x.about(11), x.about(12),
            x.about(13), x.fault(0), x.fault(1)};
    }

    /** Puts a text behind what is on the TAPE, byte for byte; all the calls must succeed. */
    static void put(RestPay office, String text) {
        int before = office.about(3);
        byte[] bytes = text.getBytes(StandardCharsets.ISO_8859_1);
        for (int i = 0; i < bytes.length; i += 20) {
            int[] five = new int[5];
            for (int j = 0; j < 20; j++) {
                int sign = i + j < bytes.length ? bytes[i + j] & 255 : ' ';
                five[j / 4] = five[j / 4] << 8 | sign;
            }
            same("feed for " + text, office.feed(five[0], five[1], five[2], five[3], five[4]), before + i + 20);
        }
        same("end for " + text, office.end(before + bytes.length), before + bytes.length);
    }

    /** The text is an ACT of so many lines on the SHELF. */
    static void act(RestPay office, int shelf, String text, int lines) {
        put(office, text);
        same("act of " + text, office.act(shelf), lines);
        same("no fault in " + text, office.fault(0), 0);
        same("no place in " + text, office.fault(1), -1);
    }

    /** The text is an ACT of so many lines. */
    static void reads(String text, int lines) {
        RestPay office = new RestPay();
        act(office, 0, text, lines);
        same("lines of " + text, office.about(10), lines);
    }

    /** The text has that FAULT at that place. */
    static void fault(String text, int fault, int place) {
        RestPay office = new RestPay();
        put(office, text);
        same("act of " + text, office.act(0), -1);
        same("fault of " + text, office.fault(0), fault);
        same("place in " + text, office.fault(1), place);
    }

    static String times(String text, int times) {
        StringBuilder all = new StringBuilder();
        for (int i = 0; i < times; i++) {
            all.append(text);
        }
        return all.toString();
    }

    static void end(String test) {
        System.out.println(test + ": " + asked + " answers, " + wrong + " wrong");
        if (wrong != 0) {
            System.exit(1);
        }
    }
}
