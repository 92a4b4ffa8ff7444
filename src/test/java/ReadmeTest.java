import java.io.IOException;
import java.lang.reflect.Method;
import java.lang.reflect.Modifier;
import java.net.URL;
import java.net.URLClassLoader;
import java.nio.file.Files;
import java.nio.file.Path;
import java.util.ArrayList;
import java.util.List;
import java.util.Locale;
import java.util.Map;
import java.util.Set;
import java.util.TreeMap;
import java.util.TreeSet;
import java.util.regex.Matcher;
import java.util.regex.Pattern;
import java.util.stream.Stream;
import javax.tools.JavaCompiler;
import javax.tools.ToolProvider;

/** What README.md says is true: its examples are compiled and asked, its tables are compared with the document. */
public final class ReadmeTest {
    private static final Check CHECK = new Check("ReadmeTest");
    private static final Pattern ASKED = Pattern.compile("(table\\.(\\w+)\\(.*\\));\\s+// (-?\\d+|[A-Z]+)\\b.*");
    private static final Pattern ROW = Pattern.compile("(?m)^\\| `(\\w+\\([^)]*\\))` \\| (.*) \\| (.*) \\|$");
    private static final Pattern GROUP = Pattern.compile("Ahead of the calls (.*) the interface says: ---- (.*)\\.");
    private static final Pattern CALL = Pattern.compile("public (?:int|long) (\\w+)\\((.*)\\);");
    private static final Map<String, Integer> ANSWERS = new TreeMap<>(Map.of("NONE", TideTable.NONE,
            "UNKNOWN", TideTable.UNKNOWN, "OUTSIDE", TideTable.OUTSIDE, "STATE", TideTable.STATE, "FULL", TideTable.FULL));

    /** A call that the page shows with its answer. */
    private record Shown(String call, String name, String answer) {
        long due() {
            return ANSWERS.containsKey(answer) ? ANSWERS.get(answer) : Long.parseLong(answer);
        }
    }

    private final String page = Files.readString(Path.of("README.md"));
    private final String document = Files.readString(Path.of("../shared/DOC.md"));
    private final List<Shown> shown = new ArrayList<>();

    private ReadmeTest() throws IOException {
    }

    public static void main(String[] args) throws Exception {
        ReadmeTest test = new ReadmeTest();
        test.examples();
        test.allIsShown();
        test.groups();
        test.refusals();
        test.answers();
        test.tests();
        CHECK.end();
    }

    private static void yes(String what, boolean so) {
        CHECK.due(what, so ? 1 : 0, 1);
    }

    private void examples() throws Exception {
        long[] got = run(source());
        yes("an answer for each call that is shown", got.length == shown.size());
        for (int i = 0; i < shown.size() && i < got.length; i++) {
            CHECK.due(shown.get(i).call(), got[i], shown.get(i).due());
        }
    }

    /** All examples as the body of one method, in which each call with an answer keeps what it got. */
    private String source() {
        StringBuilder body = new StringBuilder();
        Matcher block = Pattern.compile("(?s)```java\n(.*?)```").matcher(page);
        while (block.find()) {
            for (String line : block.group(1).split("\n")) {
                body.append(kept(line)).append('\n');
            }
        }
        return "public final class ReadmeExample {\n    public static long[] answers() {\n"
                + "long[] got = new long[" + shown.size() + "];\n" + body + "return got;\n}\n}\n";
    }

    private String kept(String line) {
        Matcher asked = ASKED.matcher(line);
        if (!asked.matches()) {
            yes("an answer stands behind: " + line, !line.startsWith("table."));
            return line;
        }
        shown.add(new Shown(asked.group(1), asked.group(2), asked.group(3)));
        return "got[" + (shown.size() - 1) + "] = " + asked.group(1) + ";";
    }

    private static long[] run(String source) throws Exception {
        Path room = Files.createTempDirectory("readme");
        Path file = room.resolve("ReadmeExample.java");
        Path made = room.resolve("ReadmeExample.class");
        Files.writeString(file, source);
        try {
            JavaCompiler compiler = ToolProvider.getSystemJavaCompiler();
            int code = compiler.run(null, null, null, "-d", room.toString(),
                    "-cp", System.getProperty("java.class.path"), file.toString());
            CHECK.due("the examples compile", code, 0);
            if (code != 0) {
                return new long[0];
            }
            try (URLClassLoader loader = new URLClassLoader(new URL[] {room.toUri().toURL()})) {
                return (long[]) loader.loadClass("ReadmeExample").getMethod("answers").invoke(null);
            }
        } finally {
            Files.deleteIfExists(file);
            Files.deleteIfExists(made);
            Files.deleteIfExists(room);
        }
    }

    private void allIsShown() {
        Set<String> names = new TreeSet<>();
        Set<String> answers = new TreeSet<>();
        for (Shown it : shown) {
            names.add(it.name());
            answers.add(it.answer());
        }
        for (Method method : TideTable.class.getDeclaredMethods()) {
            if (Modifier.isPublic(method.getModifiers())) {
                yes(method.getName() + " is shown with an answer", names.contains(method.getName()));
            }
        }
        for (String answer : ANSWERS.keySet()) {
            yes(answer + " is shown as an answer", answers.contains(answer));
        }
        // The object that is shown is also typed a page, of 96 letters at most.
        yes("no more calls than an object is used for", shown.size() + 96 <= 512);
    }

    /** Under the heading of each group that the document names, its calls in order, with their arguments. */
    private void groups() {
        Map<String, String> calls = callsOfTheFace();
        int told = 0;
        Matcher group = GROUP.matcher(document);
        while (group.find()) {
            List<String> due = new ArrayList<>();
            for (String name : group.group(1).replace("`", "").split(", ")) {
                due.add(calls.get(name));
            }
            List<String> rows = new ArrayList<>();
            Matcher row = ROW.matcher(section(group.group(2)));
            while (row.find()) {
                rows.add(row.group(1));
            }
            yes("the calls of \"" + group.group(2) + "\" are " + due + ", told are " + rows, rows.equals(due));
            told += rows.size();
        }
        CHECK.due("calls in all groups", told, calls.size());
    }

    private Map<String, String> callsOfTheFace() {
        Map<String, String> calls = new TreeMap<>();
        Matcher call = CALL.matcher(document);
        while (call.find()) {
            String names = call.group(2).replace("int ", "").replace("boolean ", "");
            calls.put(call.group(1), call.group(1) + "(" + names + ")");
        }
        return calls;
    }

    private String section(String group) {
        String heading = "\n### " + group.substring(0, 1).toUpperCase(Locale.ROOT) + group.substring(1) + "\n";
        int first = page.indexOf(heading);
        if (first < 0) {
            return "";
        }
        int next = page.indexOf("\n##", first + heading.length());
        return page.substring(first, next < 0 ? page.length() : next);
    }

    /** The refusals of a call are told in the document's own words and order, all of them. */
    private void refusals() {
        Matcher row = ROW.matcher(page);
        while (row.find()) {
            String name = row.group(1).substring(0, row.group(1).indexOf('('));
            String promise = promise(name);
            if (row.group(3).equals("never")) {
                yes(name + " is never refused", firstRefusal(promise) == promise.length());
            } else {
                String words = promise.substring(firstRefusal(promise));
                yes(name + " is refused: " + words, words.equals(row.group(3) + "."));
            }
        }
    }

    private String promise(String name) {
        Matcher promise = Pattern.compile("(?m)^`(?:int|long) " + name + "\\(.*?\\)`: (.*)$").matcher(document);
        return promise.find() ? promise.group(1).strip() : "";
    }

    private static int firstRefusal(String promise) {
        Matcher refusal = Pattern.compile("\\b(UNKNOWN|OUTSIDE|STATE|FULL)\\b").matcher(promise);
        return refusal.find() ? refusal.start() : promise.length();
    }

    private void answers() {
        ANSWERS.forEach((name, number) ->
                yes(name + " is told as " + number, page.contains("\n| `" + name + "` | " + number + " | ")));
    }

    private void tests() throws IOException {
        Set<String> told = new TreeSet<>();
        Matcher row = Pattern.compile("(?m)^\\| (\\w+Test) \\|").matcher(page);
        while (row.find()) {
            told.add(row.group(1));
        }
        Set<String> due = new TreeSet<>();
        try (Stream<Path> files = Files.list(Path.of("src/test/java"))) {
            files.map(file -> file.getFileName().toString()).filter(name -> name.endsWith("Test.java"))
                    .forEach(name -> due.add(name.replace(".java", "")));
        }
        yes("the tests are " + due + ", told are " + told, told.equals(due));
        yes("how the tests are run is told", page.contains("\n    .ci/run\n") && Files.isExecutable(Path.of(".ci/run")));
    }
}
