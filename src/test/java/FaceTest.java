import java.io.IOException;
import java.lang.reflect.Constructor;
import java.lang.reflect.Field;
import java.lang.reflect.Method;
import java.lang.reflect.Modifier;
import java.nio.file.Files;
import java.nio.file.Path;
import java.util.ArrayList;
import java.util.List;
import java.util.Set;
import java.util.TreeSet;
import java.util.regex.Matcher;
import java.util.regex.Pattern;

/** The public face is the document's, and the source keeps to what LANGUAGE.md can be held to by its words. */
public final class FaceTest {
    private static final Check CHECK = new Check();
    private static final Path DOCUMENT = Path.of("../shared/DOC.md");
    private static final Path SOURCE = Path.of("src/main/java/ChapterBuilder.java");
    private static final Pattern METHOD = Pattern.compile("public (\\w+) (\\w+)\\((.*)\\)(?: throws (.*))?;");
    private static final Pattern HEAD = Pattern.compile("^ {4,8}(?:[\\w\\[\\]]+ )*[\\w\\[\\]]+ ?\\w*\\(.*\\{$");
    private static final String[] FORBIDDEN = {"->", "::", "catch", "finally", "synchronized", "assert ", "instanceof",
        "getMessage", "System.out", "System.err", "System.exit", "System.nano", "System.current", "Random", "Thread",
        "hashCode", "toString", "@", "lambda", "Exact", "import java.io", "import java.nio", "\" +", "+ \""};

    public static void main(String[] args) throws IOException {
        face();
        others();
        source();
        CHECK.end("FaceTest");
    }

    private static Set<String> documented() throws IOException {
        Set<String> lines = new TreeSet<>();
        for (String line : Files.readAllLines(DOCUMENT)) {
            Matcher matcher = METHOD.matcher(line.trim());
            if (line.startsWith("    public") && matcher.matches()) {
                List<String> types = new ArrayList<>();
                for (String parameter : matcher.group(3).split(", ")) {
                    types.add(parameter.split(" ")[0]);
                }
                String thrown = matcher.group(4) == null ? "" : matcher.group(4);
                lines.add(matcher.group(1) + " " + matcher.group(2) + " " + types + " " + thrown);
            }
        }
        return lines;
    }

    private static String line(Method method) {
        List<String> types = new ArrayList<>();
        for (Class<?> type : method.getParameterTypes()) {
            types.add(type.getSimpleName());
        }
        if (types.isEmpty()) {
            types.add("");
        }
        List<String> thrown = new ArrayList<>();
        for (Class<?> type : method.getExceptionTypes()) {
            thrown.add(type.getSimpleName());
        }
        return method.getReturnType() + " " + method.getName() + " " + types + " " + String.join(", ", thrown);
    }

    private static void face() throws IOException {
        Set<String> lines = new TreeSet<>();
        for (Method method : ChapterBuilder.class.getDeclaredMethods()) {
            if (Modifier.isPublic(method.getModifiers())) {
                CHECK.isTrue("no static call " + method, !Modifier.isStatic(method.getModifiers()));
                lines.add(line(method));
            }
        }
        CHECK.equal("43 methods", 43, documented().size());
        CHECK.same("the methods", documented().toString(), lines.toString());
        CHECK.equal("NONE", -1, ChapterBuilder.NONE);
        CHECK.equal("SYNTAX_ERROR", -2, ChapterBuilder.SYNTAX_ERROR);
        CHECK.equal("VALUE_ERROR", -3, ChapterBuilder.VALUE_ERROR);
        CHECK.equal("TOO_MANY", -4, ChapterBuilder.TOO_MANY);
        CHECK.isTrue("final", Modifier.isFinal(ChapterBuilder.class.getModifiers()));
    }

    private static void others() {
        Set<String> names = new TreeSet<>();
        for (Method method : ChapterBuilder.class.getDeclaredMethods()) {
            if (Modifier.isPublic(method.getModifiers())) {
                names.add(method.getName());
            }
        }
        for (Method method : ChapterBuilder.class.getDeclaredMethods()) {
            boolean isPublic = Modifier.isPublic(method.getModifiers());
            CHECK.isTrue("private " + method, isPublic || Modifier.isPrivate(method.getModifiers()));
            CHECK.isTrue("a name of its own " + method, isPublic || !names.contains(method.getName()));
        }
        int publicFields = 0;
        for (Field field : ChapterBuilder.class.getDeclaredFields()) {
            boolean isPublic = Modifier.isPublic(field.getModifiers());
            publicFields += isPublic ? 1 : 0;
            CHECK.isTrue("private " + field, isPublic || Modifier.isPrivate(field.getModifiers()));
        }
        CHECK.equal("public constants", 4, publicFields);
        Constructor<?>[] constructors = ChapterBuilder.class.getDeclaredConstructors();
        CHECK.equal("constructors", 1, constructors.length);
        CHECK.isTrue("public constructor", Modifier.isPublic(constructors[0].getModifiers()));
        Class<?>[] inside = ChapterBuilder.class.getDeclaredClasses();
        CHECK.isTrue("at most 12 classes", inside.length + 1 <= 12);
        for (Class<?> one : inside) {
            inside(one, names);
        }
    }

    private static void inside(Class<?> one, Set<String> names) {
        CHECK.isTrue("static " + one, Modifier.isStatic(one.getModifiers()));
        int fields = 0;
        for (Field field : one.getDeclaredFields()) {
            boolean isStatic = Modifier.isStatic(field.getModifiers());
            fields += isStatic ? 0 : 1;
            CHECK.isTrue("final " + field, !isStatic || Modifier.isFinal(field.getModifiers()));
        }
        CHECK.isTrue("at most 20 fields in " + one, fields <= 20);
        for (Method method : one.getDeclaredMethods()) {
            CHECK.isTrue("a name of its own " + method, !names.contains(method.getName()));
            CHECK.isTrue("at most 7 parameters " + method, method.getParameterCount() <= 7);
        }
    }

    private static void source() throws IOException {
        List<String> lines = Files.readAllLines(SOURCE);
        int begin = -1;
        for (int i = 0; i < lines.size(); i++) {
            String line = lines.get(i);
            int comment = line.indexOf("//");
            String code = line.trim().startsWith("*") || line.trim().startsWith("/**") ? ""
                    : comment >= 0 ? line.substring(0, comment) : line;
            for (String word : FORBIDDEN) {
                CHECK.isTrue("line " + (i + 1) + " without " + word, !code.contains(word));
            }
            CHECK.isTrue("line " + (i + 1) + " in ASCII", line.chars().allMatch(c -> c >= 32 && c < 127));
            if (HEAD.matcher(line).matches()) {
                begin = i;
            }
            if (begin >= 0 && (line.equals("    }") || line.equals("        }"))) {
                CHECK.isTrue("at most 60 lines from " + (begin + 1), i - begin < 60);
                begin = -1;
            }
        }
    }
}
