import java.io.IOException;
import java.nio.file.Files;
import java.nio.file.Path;
import java.util.LinkedHashMap;
import java.util.Map;
import java.util.regex.Matcher;
import java.util.regex.Pattern;

/** The words of ../shared/DOC.md by their parts, and which of them a test has quoted. */
final class Document {
    private static final Path PAGE = Path.of("../shared/DOC.md");
    private static final Map<String, String> PARTS = new LinkedHashMap<>();
    private static final Map<String, boolean[]> QUOTED = new LinkedHashMap<>();

    static {
        read();
    }

    private Document() {
    }

    private static void read() {
        String page;
        try {
            page = Files.readString(PAGE);
        } catch (IOException unreadable) {
            System.out.println("no " + PAGE + ": no quotation is looked up");
            return;
        }
        String terms = between(page, "## Terms\n", "## Promise 1:");
        String[] parts = terms.split("==== \\d\\.");
        for (int i = 0; i < parts.length; i++) {
            keep("Terms " + (i + 1), parts[i].replaceAll("```(text)?", " "));
        }
        for (int n = 1; n <= 30; n++) {
            String part = between(page, "## Promise " + n + ":", "## ");
            keep("Promise " + n, part.substring(part.indexOf("`: ") + 3));
        }
        keep("What it is", between(page, "## What it is", "## "));
    }

    private static String between(String page, String from, String to) {
        int start = page.indexOf(from) + from.length();
        int end = page.indexOf(to, start);
        return page.substring(start, end < 0 ? page.length() : end);
    }

    private static void keep(String where, String words) {
        String plain = onLine(words);
        PARTS.put(where, plain);
        QUOTED.put(where, new boolean[plain.length()]);
    }

    private static String onLine(String words) {
        return words.replaceAll("\\s+", " ").trim();
    }

    static void quote(String where, String words) {
        if (PARTS.isEmpty()) {
            return;
        }
        String part = PARTS.getOrDefault(where, "");
        String plain = onLine(words);
        int at = part.indexOf(plain);
        Check.holds("these words stand there", at >= 0);
        for (int i = at; i >= 0 && i < at + plain.length(); i++) {
            QUOTED.get(where)[i] = true;
        }
    }

    /** No word of the terms and the promises is without a test that quotes it. */
    static void allQuoted() {
        Pattern word = Pattern.compile("[A-Za-z0-9]+");
        for (String where : PARTS.keySet()) {
            Matcher words = word.matcher(PARTS.get(where));
            while (!where.equals("What it is") && words.find()) {
                Check.holds("no test quotes '" + words.group() + "' at " + words.start() + " of " + where,
                        QUOTED.get(where)[words.start()]);
            }
        }
    }
}
