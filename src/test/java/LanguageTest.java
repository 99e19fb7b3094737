import java.io.IOException;
import java.lang.reflect.Constructor;
import java.lang.reflect.Field;
import java.lang.reflect.Method;
import java.lang.reflect.Modifier;
import java.nio.file.Files;
import java.nio.file.Path;
import java.util.ArrayList;
import java.util.List;
import java.util.Set;
import java.util.TreeSet;
import java.util.regex.Matcher;
import java.util.regex.Pattern;

/** The face of the class, and those rules of LANGUAGE.md that can be seen in its text or its members. */
public final class LanguageTest {
    private static final Path SOURCE = Path.of("src/main/java/RestPay.java");
    private static final String[] FORBIDDEN = {"throw", "throws", "try", "catch", "finally", "synchronized", "assert", "package",
        "volatile", "native", "transient", "hashCode", "Exact", "System.exit", "Random", "Thread", "Object"};
    private static final String[] FACE = {
        "int feed int int int int int", "int end int", "int act int", "int fault int", "int worker int boolean",
        "int pay int int int int", "int lost int int", "int bank int int int int", "int holiday int int int int",
        "int settle int int int", "int claim int int", "boolean untell int", "int later int",
        "int span int int boolean int", "int quarrel int int", "int counted int int int boolean int",
        "int empty int int int boolean int", "int average int int boolean int", "int weeks int int boolean int",
        "int owed int int boolean int", "int chain int int boolean int", "int link int int int boolean int",
        "long due int int boolean int", "long payout int int boolean int", "long quarrels int int boolean int",
        "int marks int int boolean int", "int tests int int boolean int", "long settles int int boolean int",
        "int about int"};

    public static void main(String[] args) throws IOException {
        String text = Files.readString(SOURCE);
        String code = text.replaceAll("(?s)/\\*.*?\\*/", "").replaceAll("//[^\n]*", "");
        words(code.replaceAll("\"[^\"\n]*\"", "\"\"").replaceAll("'[^'\n]*'", "' '"));
        for (int i = 0; i < text.length(); i++) {
            char c = text.charAt(i);
            Check.holds("sign " + (int) c + " at " + i, c == '\n' || c >= 32 && c < 127);
        }
        face();
        faceOfDocument();
        members(RestPay.class);
        for (Class<?> inside : RestPay.class.getDeclaredClasses()) {
            Check.holds(inside + " is static", Modifier.isStatic(inside.getModifiers()));
            Check.holds(inside + " is not public", !Modifier.isPublic(inside.getModifiers()));
            members(inside);
        }
        Check.holds("at most twelve classes", RestPay.class.getDeclaredClasses().length < 12);
        methodLengths(text);
        Check.same("NONE", RestPay.NONE, -1);
        Check.end("LanguageTest");
    }

    private static void words(String code) {
        for (String word : FORBIDDEN) {
            Check.holds("no " + word, !Pattern.compile("\\b" + Pattern.quote(word) + "\\b").matcher(code).find());
        }
        Check.holds("no lambda", !code.contains("->"));
        Check.holds("no method reference", !code.contains("::"));
        Check.holds("no instance of Object", !code.contains("new Object"));
        Matcher imports = Pattern.compile("import ([^;]*);").matcher(code);
        while (imports.find()) {
            Check.holds("import " + imports.group(1), imports.group(1).equals("java.util.Arrays"));
        }
        Check.holds("no text joined by +", !code.contains("\" +") && !code.contains("+ \""));
        Check.holds("no while without a bound", !Pattern.compile("while \\((?!cursor < tapeSize)").matcher(code).find());
    }

    private static void face() {
        Set<String> found = new TreeSet<>();
        for (Method method : RestPay.class.getDeclaredMethods()) {
            if (!Modifier.isPrivate(method.getModifiers())) {
                StringBuilder line = new StringBuilder(method.getReturnType() + " " + method.getName());
                for (Class<?> type : method.getParameterTypes()) {
                    line.append(' ').append(type);
                }
                Check.holds(line + " is public", Modifier.isPublic(method.getModifiers()));
                found.add(line.toString());
            }
        }
        Check.holds("the face is " + found, found.equals(new TreeSet<>(List.of(FACE))));
        Constructor<?>[] makers = RestPay.class.getDeclaredConstructors();
        Check.holds("one constructor", makers.length == 1 && makers[0].getParameterCount() == 0
                && Modifier.isPublic(makers[0].getModifiers()));
        Check.holds("public and final", Modifier.isPublic(RestPay.class.getModifiers()) && Modifier.isFinal(RestPay.class.getModifiers()));
    }

    /** "The public face" of the document names the same methods and the one constant. */
    private static void faceOfDocument() throws IOException {
        String page = Files.readString(Path.of("../shared/DOC.md"));
        String block = page.substring(page.indexOf("## The public face"), page.indexOf("## Terms"));
        Set<String> told = new TreeSet<>();
        Matcher lines = Pattern.compile("public (\\w+ \\w+)\\(([^)]*)\\);").matcher(block);
        while (lines.find()) {
            told.add((lines.group(1) + " " + lines.group(2).replaceAll("(\\w+) \\w+(, )?", "$1 ")).trim());
        }
        Check.holds("the document's face is " + told, told.equals(new TreeSet<>(List.of(FACE))));
        Check.holds("the document's constant", block.contains("public static final int NONE = " + RestPay.NONE + ";"));
        Check.holds("the document's constructor", block.contains("public RestPay();"));
    }

    private static void members(Class<?> type) {
        Set<String> face = new TreeSet<>();
        for (String line : FACE) {
            face.add(line.split(" ")[1]);
        }
        int fields = 0;
        for (Field field : type.getDeclaredFields()) {
            boolean constant = Modifier.isStatic(field.getModifiers());
            Check.holds(field + " is final if static", !constant || Modifier.isFinal(field.getModifiers()));
            fields += constant ? 0 : 1;
            Check.holds(field + " is private", type != RestPay.class || Modifier.isPrivate(field.getModifiers())
                    || field.getName().equals("NONE"));
        }
        Check.holds("fields of " + type, fields <= 20);
        for (Method method : type.getDeclaredMethods()) {
            boolean open = type == RestPay.class && Modifier.isPublic(method.getModifiers());
            Check.holds(method + " has a name of its own", open || !face.contains(method.getName()));
            Check.holds(method + " takes at most seven", method.getParameterCount() <= 7);
        }
    }

    /** By their indentation: a method begins with a line that ends in ") {" in a class, and ends with its brace. */
    private static void methodLengths(String text) {
        List<String> lines = new ArrayList<>(List.of(text.split("\n")));
        Pattern begins = Pattern.compile("^( {4}| {8})[\\w\\[\\]]+( [\\w\\[\\]]+)*\\(.*\\) \\{$");
        for (int i = 0; i < lines.size(); i++) {
            Matcher begin = begins.matcher(lines.get(i));
            if (begin.matches()) {
                int end = i;
                while (!lines.get(end).equals(begin.group(1) + "}")) {
                    end++;
                }
                Check.holds("too long: " + lines.get(i), end - i < 60);
            }
        }
    }
}
