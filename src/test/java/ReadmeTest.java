import java.io.IOException;
import java.io.StringWriter;
import java.lang.reflect.Method;
import java.lang.reflect.Modifier;
import java.net.URL;
import java.net.URLClassLoader;
import java.nio.file.Files;
import java.nio.file.Path;
import java.util.ArrayList;
import java.util.List;
import java.util.Set;
import java.util.TreeSet;
import java.util.regex.Matcher;
import java.util.regex.Pattern;
import java.util.stream.Stream;
import javax.tools.JavaCompiler;
import javax.tools.ToolProvider;

/**
 * The calls that README.md shows are compiled with the class and made, in their order; each must give
 * the answer that stands behind it. A page that shows a call without an answer is wrong too.
 */
public final class ReadmeTest {
    private static final Path PAGE = Path.of("README.md");
    private static final Path TESTS = Path.of("src/test/java");
    private static final Pattern BLOCK = Pattern.compile("(?ms)^```java\n(.*?)^```$");
    private static final Pattern ANSWERED = Pattern.compile("(?s)^(\\w+ (\\w+) = )?(.*);\\s*// (-?\\d+|true|false)(?::.*)?$");
    private static final Pattern MAKING = Pattern.compile("^RestPay \\w+ = new RestPay\\(\\);$");
    private static final Pattern LISTED = Pattern.compile("(?m)^\\| (\\w+Test) \\|");

    private final String page;
    private final List<String> wrong = new ArrayList<>();
    private final List<String> shown = new ArrayList<>();
    private final List<String> due = new ArrayList<>();
    private final StringBuilder members = new StringBuilder();
    private final StringBuilder body = new StringBuilder();

    private ReadmeTest(String page) {
        this.page = page;
    }

    public static void main(String[] args) throws Exception {
        String page = Files.readString(PAGE);
        for (String fault : faultsOf(page)) {
            Check.holds(fault, false);
        }
        everyMethodIsShown(page);
        everyTestIsListed(page);
        Check.holds("README.md names .ci/run, and it can be run", page.contains("\n.ci/run\n") && Files.isExecutable(Path.of(".ci/run")));
        wrongPagesAreFound(page);
        Check.end("ReadmeTest");
    }

    /** What is wrong with the calls of a page. */
    private static List<String> faultsOf(String page) throws Exception {
        ReadmeTest test = new ReadmeTest(page);
        test.readBlocks();
        if (test.wrong.isEmpty()) {
            test.makeCalls();
        }
        return test.wrong;
    }

    /** A block that begins with static is a method of the reader's own; all others are calls. */
    private void readBlocks() {
        Matcher blocks = BLOCK.matcher(page);
        while (blocks.find()) {
            if (blocks.group(1).startsWith("static ")) {
                members.append(blocks.group(1));
            } else {
                readCalls(blocks.group(1));
            }
        }
    }

    private void readCalls(String block) {
        String statement = "";
        for (String line : block.split("\n")) {
            statement = statement.isEmpty() ? line : statement + "\n" + line;
            if (line.matches(".*;\\s*(//.*)?")) {
                readCall(statement);
                statement = "";
            }
        }
        if (!statement.isBlank()) {
            wrong.add("README.md has calls without an end: " + statement);
        }
    }

    private void readCall(String statement) {
        Matcher answered = ANSWERED.matcher(statement);
        if (answered.matches()) {
            shown.add(statement);
            due.add(answered.group(4));
            String value = answered.group(3);
            if (answered.group(1) != null) {
                body.append(answered.group(1)).append(value).append(";\n");
                value = answered.group(2);
            }
            body.append("said.add(String.valueOf(").append(value).append("));\n");
        } else if (MAKING.matcher(statement).matches()) {
            body.append(statement).append("\n");
        } else {
            wrong.add("README.md shows a call without its answer: " + statement);
        }
    }

    private void makeCalls() throws Exception {
        Path room = Files.createTempDirectory("readme");
        try {
            List<?> said = compileAndRun(room);
            Check.same("answers of README.md", said.size(), due.size());
            for (int i = 0; i < said.size() && i < due.size(); i++) {
                if (!due.get(i).equals(said.get(i))) {
                    wrong.add("README.md: " + shown.get(i) + " answered " + said.get(i));
                }
            }
        } finally {
            removeAll(room);
        }
    }

    private List<?> compileAndRun(Path room) throws Exception {
        Path source = room.resolve("ReadmeCalls.java");
        Files.writeString(source, "public final class ReadmeCalls {\n" + members
                + "public static java.util.List<String> run() {\njava.util.List<String> said = new java.util.ArrayList<>();\n"
                + body + "return said;\n}\n}\n");
        JavaCompiler compiler = ToolProvider.getSystemJavaCompiler();
        StringWriter says = new StringWriter();
        List<String> options = List.of("-d", room.toString(), "-cp", System.getProperty("java.class.path"));
        if (!compiler.getTask(says, null, null, options, null, sources(compiler, source)).call()) {
            wrong.add("README.md does not compile: " + says);
            return due;
        }
        try (URLClassLoader loader = new URLClassLoader(new URL[] {room.toUri().toURL()}, ReadmeTest.class.getClassLoader())) {
            return (List<?>) loader.loadClass("ReadmeCalls").getMethod("run").invoke(null);
        }
    }

    private static Iterable<? extends javax.tools.JavaFileObject> sources(JavaCompiler compiler, Path source) {
        return compiler.getStandardFileManager(null, null, null).getJavaFileObjects(source);
    }

    private static void removeAll(Path room) throws IOException {
        try (Stream<Path> files = Files.list(room)) {
            for (Path file : files.toList()) {
                Files.delete(file);
            }
        }
        Files.delete(room);
    }

    private static void everyMethodIsShown(String page) {
        ReadmeTest test = new ReadmeTest(page);
        test.readBlocks();
        for (Method method : RestPay.class.getDeclaredMethods()) {
            boolean isShown = test.shown.stream().anyMatch(call -> call.contains("office." + method.getName() + "("));
            Check.holds("README.md shows " + method.getName(), isShown || !Modifier.isPublic(method.getModifiers()));
        }
    }

    private static void everyTestIsListed(String page) throws IOException {
        Set<String> listed = new TreeSet<>();
        Matcher rows = LISTED.matcher(page);
        while (rows.find()) {
            listed.add(rows.group(1));
        }
        Set<String> found = new TreeSet<>();
        try (Stream<Path> files = Files.list(TESTS)) {
            files.map(file -> file.getFileName().toString()).filter(name -> name.endsWith("Test.java"))
                    .forEach(name -> found.add(name.substring(0, name.length() - ".java".length())));
        }
        Check.holds("README.md lists " + listed + ", there are " + found, listed.equals(found));
    }

    /** This test would fail if the page said something else. */
    private static void wrongPagesAreFound(String page) throws Exception {
        Matcher answers = Pattern.compile("// (-?\\d+|true)(?=:|\n)").matcher(page);
        int last = 0;
        int first = -1;
        while (answers.find()) {
            first = first < 0 ? answers.start(1) : first;
            last = answers.start(1);
        }
        for (int at : new int[] {first, last}) {
            String other = page.substring(0, at) + "7" + page.substring(at).replaceFirst("-?\\w+", "");
            Check.same("another answer is found", faultsOf(other).size(), 1);
        }
        Check.same("another flag is found", faultsOf(page.replace("// true", "// false")).size(), 1);
        Check.same("an unknown call is found", faultsOf(page.replaceFirst("office\\.act\\(", "office.acts(")).size(), 1);
        Check.same("another type is found", faultsOf(page.replaceFirst("int claim =", "boolean claim =")).size(), 1);
        Check.same("a call without an answer is found", faultsOf(page.replaceFirst("// 23:", "// so")).size(), 1);
        Check.same("a block without an end is found", faultsOf(page.replaceFirst("office\\.about\\(3\\);[^\n]*", "office.about(3)")).size(), 1);
    }
}
