import java.io.IOException;
import java.lang.reflect.Constructor;
import java.lang.reflect.Field;
import java.lang.reflect.Method;
import java.lang.reflect.Modifier;
import java.nio.file.Files;
import java.nio.file.Path;
import java.util.Set;
import java.util.TreeSet;
import java.util.regex.Matcher;
import java.util.regex.Pattern;

/** The public face of the document and what of LANGUAGE.md can be seen in the class and in its text. */
public final class FaceTest {
    private static final Check CHECK = new Check("FaceTest");
    private static final String FACE = """
            int letter(int)
            int blank()
            int fault()
            int ports()
            int port(int,int)
            int wave(int,int,int)
            int as(int,int)
            int round(int)
            int sum(int,int)
            int height(int,int)
            int tide(int,int,int,int)
            int gate(int,int,int,int,int)
            int dry(int,int,int)
            int stream(int,int,int)
            int slack(int,int,int)
            int trip(int,int,int,int)
            int leave(int,int,int,int,int)
            int mean(int,int)
            int mark(int,int)
            int ratio(int,int)
            int add(int,int,int,int)
            int take(int,int)
            int be(int,int)
            int see(int,int,boolean)
            int forget()
            int drawn(int,int,int)
            int image()
            int restore()
            int count(int)
            long digest()
            """;

    public static void main(String[] args) throws IOException {
        constants();
        methods();
        nested();
        String source = Files.readString(Path.of("src/main/java/TideTable.java"));
        text(source);
        lengths(source);
        CHECK.end();
    }

    private static void yes(String what, boolean so) {
        CHECK.due(what, so ? 1 : 0, 1);
    }

    private static void constants() {
        CHECK.due("NONE", TideTable.NONE, -10001);
        CHECK.due("UNKNOWN", TideTable.UNKNOWN, -10101);
        CHECK.due("OUTSIDE", TideTable.OUTSIDE, -10102);
        CHECK.due("STATE", TideTable.STATE, -10103);
        CHECK.due("FULL", TideTable.FULL, -10104);
        Set<String> open = new TreeSet<>();
        for (Field field : TideTable.class.getDeclaredFields()) {
            int modifiers = field.getModifiers();
            if (!Modifier.isPrivate(modifiers)) {
                open.add(field.getName());
            }
            if (Modifier.isStatic(modifiers)) {
                yes(field.getName() + " is final", Modifier.isFinal(modifiers));
            }
        }
        yes("the open constants: " + open, open.equals(Set.of("NONE", "UNKNOWN", "OUTSIDE", "STATE", "FULL")));
    }

    private static void methods() {
        yes("the class is public and final",
                Modifier.isPublic(TideTable.class.getModifiers()) && Modifier.isFinal(TideTable.class.getModifiers()));
        Set<String> open = new TreeSet<>();
        Set<String> names = new TreeSet<>();
        for (Method method : TideTable.class.getDeclaredMethods()) {
            if (!Modifier.isPrivate(method.getModifiers())) {
                String whole = method.toString();
                yes(whole + " is public and no more", whole.startsWith("public " + method.getReturnType() + " "));
                open.add(whole.replace("public ", "").replace("TideTable.", ""));
                names.add(method.getName());
            }
        }
        yes("the open methods: " + open, open.equals(new TreeSet<>(Set.of(FACE.strip().split("\n")))));
        for (Method method : TideTable.class.getDeclaredMethods()) {
            if (Modifier.isPrivate(method.getModifiers())) {
                yes(method.getName() + " bears no open name", !names.contains(method.getName()));
            }
        }
        Constructor<?>[] constructors = TideTable.class.getDeclaredConstructors();
        yes("one constructor", constructors.length == 1);
        yes("it is public", Modifier.isPublic(constructors[0].getModifiers()));
        yes("it takes nothing", constructors[0].getParameterCount() == 0);
    }

    private static int fieldsBesideConstants(Class<?> some) {
        int fields = 0;
        for (Field field : some.getDeclaredFields()) {
            fields += Modifier.isStatic(field.getModifiers()) ? 0 : 1;
        }
        return fields;
    }

    private static void nested() {
        yes("some twelve classes at most", TideTable.class.getDeclaredClasses().length < 12);
        yes("some twenty fields at most", fieldsBesideConstants(TideTable.class) <= 20);
        for (Class<?> inner : TideTable.class.getDeclaredClasses()) {
            yes(inner + " is static", Modifier.isStatic(inner.getModifiers()));
            yes(inner + " is not open", !Modifier.isPublic(inner.getModifiers()));
            for (Field field : inner.getDeclaredFields()) {
                yes(field + " is no static state", !Modifier.isStatic(field.getModifiers()));
            }
            yes(inner + " has some twenty fields at most", fieldsBesideConstants(inner) <= 20);
            for (Method method : inner.getDeclaredMethods()) {
                yes(method + " takes at most seven", method.getParameterCount() <= 7);
                yes(method + " bears no open name", !FACE.contains(" " + method.getName() + "("));
            }
        }
    }

    /** A method ends at the first brace that stands as far in as its own first line. */
    private static void lengths(String source) {
        String[] lines = source.split("\n");
        int methods = 0;
        for (int first = 0; first < lines.length; first++) {
            Matcher head = Pattern.compile("((?: {4}){1,2})(?! )(?!.*\\bclass\\b)\\w.*\\).*\\{").matcher(lines[first]);
            if (head.matches() && !lines[first].matches(" *(if|for|while|switch|else|do)\\b.*")) {
                int last = first;
                while (last < lines.length && !lines[last].equals(head.group(1) + "}")) {
                    last++;
                }
                methods++;
                yes(lines[first].strip() + " .. has some sixty lines at most", last - first < 60);
            }
        }
        int due = TideTable.class.getDeclaredMethods().length;
        for (Class<?> inner : TideTable.class.getDeclaredClasses()) {
            due += inner.getDeclaredMethods().length;
        }
        yes("each of " + due + " methods is looked at: " + methods, methods >= due);
    }

    private static void text(String source) {
        String code = source.replaceAll("(?s)/\\*.*?\\*/", "").replaceAll("//[^\n]*", "").replaceAll("\"[^\"]*\"", "\"\"");
        String[] words = {
            "throw", "throws", "try", "catch", "finally", "synchronized", "assert", "import", "package", "Object",
            "System", "Thread", "Random", "hashCode", "toString", "var", "native", "volatile", "strictfp"
        };
        for (String word : words) {
            Matcher matcher = Pattern.compile("\\b" + word + "\\b").matcher(code);
            yes("no " + word + " in the text", !matcher.find());
        }
        yes("no lambda or method reference", !code.contains("->") && !code.contains("::"));
        yes("signs 1 to 127 alone", source.chars().allMatch(sign -> sign >= 1 && sign <= 127));
        Matcher library = Pattern.compile("\\b(Math|Integer|Long|Arrays)\\.(\\w+)").matcher(code);
        Set<String> known = Set.of("max", "min", "abs", "floorDiv", "floorMod", "bitCount", "compare", "signum");
        while (library.find()) {
            yes(library.group() + " is known", known.contains(library.group(2)));
        }
    }
}
