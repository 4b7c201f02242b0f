import java.io.IOException;
import java.lang.reflect.Constructor;
import java.lang.reflect.Method;
import java.lang.reflect.Modifier;
import java.nio.file.Files;
import java.nio.file.Path;
import java.util.ArrayList;
import java.util.Arrays;
import java.util.Collections;
import java.util.List;
import java.util.regex.Matcher;
import java.util.regex.Pattern;

/** The document's face, to the letter, and what of LANGUAGE.md can be seen without running the program. */
public final class FormTest {
    private static final Path DOCUMENT = Path.of("../shared/DOC.md");
    private static final Path PROGRAM = Path.of("src/main/java/SeriesWatcher.java");

    public static void main(String[] args) throws IOException {
        Checks.same("the face", faceOfProgram(), faceOfDocument());
        Checks.same("the headings ahead of the calls", headingsOfProgram(), headingsOfDocument());
        Checks.same("the class is final", Modifier.isFinal(SeriesWatcher.class.getModifiers()), true);
        Checks.same("members beside the face and the private ones", openMembers(), List.of());
        Checks.same("private methods with a public one's name", sharedNames(), List.of());
        Checks.same("classes inside (at most 12)", SeriesWatcher.class.getDeclaredClasses().length <= 11, true);
        Checks.same("static fields that can change", changingStatics(), List.of());
        Checks.same("classes with over 20 fields", crowded(), List.of());
        String code = withoutComments(Files.readString(PROGRAM));
        for (String ruledOut : List.of("\\bimport\\b", "\\bpackage\\b", "->", "::", "\\bcatch\\b", "\\bfinally\\b",
                "\\bsynchronized\\b", "\\bassert\\b", "\\bstatic\\s*\\{", "Exact\\(", "\\bequals\\b", "\\bhashCode\\b",
                "\\btoString\\b", "\\bSystem\\b", "\\bThread\\b", "\\bwhile\\s*\\(true\\)", "for\\s*\\(;")) {
            Matcher matcher = Pattern.compile(ruledOut).matcher(code);
            Checks.same("the program holds " + ruledOut, matcher.find(), false);
        }
        Checks.same("methods of over 60 lines or 7 parameters", longMethods(code), List.of());
        Checks.end("FormTest");
    }

    private static List<String> faceOfDocument() throws IOException {
        Matcher face = Pattern.compile("public final class SeriesWatcher \\{\n(.*?)\n\\}", Pattern.DOTALL)
                .matcher(Files.readString(DOCUMENT));
        List<String> lines = new ArrayList<>();
        if (face.find()) {
            for (String line : face.group(1).split("\n")) {
                lines.add(line.strip().replaceAll("(int|boolean) \\w+(?=[,)])", "$1"));
            }
        }
        Collections.sort(lines);
        return lines;
    }

    private static List<String> faceOfProgram() {
        List<String> lines = new ArrayList<>();
        for (Constructor<?> constructor : SeriesWatcher.class.getConstructors()) {
            lines.add("public SeriesWatcher(" + types(constructor.getParameterTypes(), "") + ");");
        }
        for (Method method : SeriesWatcher.class.getDeclaredMethods()) {
            if (Modifier.isPublic(method.getModifiers())) {
                lines.add("public " + method.getReturnType().getSimpleName() + " " + method.getName() + "("
                        + types(method.getParameterTypes(), "") + ")"
                        + types(method.getExceptionTypes(), " throws ") + ";");
            }
        }
        Collections.sort(lines);
        return lines;
    }

    /** Each call of the document's face after its heading, where one is told, in the face's order. */
    private static List<String> headingsOfDocument() throws IOException {
        String document = Files.readString(DOCUMENT);
        List<String> lines = new ArrayList<>();
        Matcher call = Pattern.compile("(?m)^    public \\w+ (\\w+)\\(.*;$").matcher(document);
        while (call.find()) {
            Matcher heading = Pattern.compile("Ahead of the calls `" + call.group(1) + "`.*: (---- .*)\\.\n")
                    .matcher(document);
            if (heading.find()) {
                lines.add(heading.group(1));
            }
            lines.add(call.group(1));
        }
        Checks.same("the document's headings are known", lines.stream().filter(line -> line.startsWith("----")).count(),
                6);
        return lines;
    }

    private static List<String> headingsOfProgram() throws IOException {
        List<String> lines = new ArrayList<>();
        Matcher line = Pattern.compile("(?m)^    (?:// (---- .*)|public \\w+ (\\w+)\\(.*\\{)$")
                .matcher(Files.readString(PROGRAM));
        while (line.find()) {
            lines.add(line.group(1) == null ? line.group(2) : line.group(1));
        }
        return lines;
    }

    private static String types(Class<?>[] types, String ahead) {
        List<String> names = Arrays.stream(types).map(Class::getSimpleName).toList();
        return names.isEmpty() ? "" : ahead + String.join(", ", names);
    }

    private static List<String> openMembers() {
        List<String> open = new ArrayList<>();
        for (Method method : SeriesWatcher.class.getDeclaredMethods()) {
            if ((method.getModifiers() & (Modifier.PUBLIC | Modifier.PRIVATE)) == 0 && !method.isSynthetic()) {
                open.add(method.getName());
            }
        }
        for (var field : SeriesWatcher.class.getDeclaredFields()) {
            if (!Modifier.isPrivate(field.getModifiers())) {
                open.add(field.getName());
            }
        }
        return open;
    }

    private static List<String> sharedNames() {
        List<String> face = new ArrayList<>();
        for (Method method : SeriesWatcher.class.getDeclaredMethods()) {
            if (Modifier.isPublic(method.getModifiers())) {
                face.add(method.getName());
            }
        }
        List<String> shared = new ArrayList<>();
        for (Class<?> every : everyClass()) {
            for (Method method : every.getDeclaredMethods()) {
                if (!Modifier.isPublic(method.getModifiers()) && face.contains(method.getName())) {
                    shared.add(method.toString());
                }
            }
        }
        return shared;
    }

    private static List<Class<?>> everyClass() {
        List<Class<?>> every = new ArrayList<>(List.of(SeriesWatcher.class.getDeclaredClasses()));
        every.add(SeriesWatcher.class);
        return every;
    }

    private static List<String> changingStatics() {
        List<String> changing = new ArrayList<>();
        for (Class<?> every : everyClass()) {
            for (var field : every.getDeclaredFields()) {
                if (Modifier.isStatic(field.getModifiers()) && !Modifier.isFinal(field.getModifiers())) {
                    changing.add(field.toString());
                }
            }
        }
        return changing;
    }

    private static List<String> crowded() {
        List<String> crowded = new ArrayList<>();
        for (Class<?> every : everyClass()) {
            long fields = Arrays.stream(every.getDeclaredFields())
                    .filter(field -> !Modifier.isStatic(field.getModifiers())).count();
            if (fields > 20) {
                crowded.add(every.getName());
            }
        }
        return crowded;
    }

    private static String withoutComments(String source) {
        return source.replaceAll("(?s)/\\*.*?\\*/", "").replaceAll("//[^\n]*", "").replaceAll("\"[^\"\n]*\"", "\"\"");
    }

    private static List<String> longMethods(String code) {
        List<String> tooLong = new ArrayList<>();
        Matcher method = Pattern.compile("(?m)^( {4}| {8})(?! )[\\w\\[\\] ]+\\(([^)]*)\\)[\\w, ]*\\{\n(.*?)^\\1\\}",
                Pattern.DOTALL).matcher(code);
        int seen = 0;
        while (method.find()) {
            seen++;
            if (method.group(3).lines().count() > 60 || method.group(2).split(",").length > 7) {
                tooLong.add(method.group().lines().findFirst().orElse(""));
            }
        }
        Checks.same("the form of a method is known", seen > 50, true);
        return tooLong;
    }
}
