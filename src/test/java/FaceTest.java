import java.io.IOException;
import java.lang.reflect.Constructor;
import java.lang.reflect.Field;
import java.lang.reflect.Method;
import java.lang.reflect.Modifier;
import java.nio.file.Files;
import java.nio.file.Path;
import java.util.ArrayList;
import java.util.Arrays;
import java.util.List;
import java.util.Set;
import java.util.TreeSet;
import java.util.regex.Matcher;
import java.util.regex.Pattern;

/** The face of the class, and of LANGUAGE.md what a look at the class and its text can tell. */
public final class FaceTest {
    private static final Pattern METHOD = Pattern.compile("    public (\\w+) (\\w+)\\((.*?)\\)(?: throws (.*))?;");
    private static final String[] FORBIDDEN = {"->", "::", "\\bFloat\\b", "\\bDouble\\b", "\\bfinally\\b",
        "\\bcatch\\b", "\\bsynchronized\\b", "\\bassert\\b", "\\bvar\\b", "Exact\\(", "\" *\\+", "\\+ *\"",
        "\\bstatic *\\{", "\\bpackage\\b", "\\bprotected\\b", "[^\\n\\x20-\\x7e]"};

    public static void main(String[] args) throws IOException {
        Set<String> names = members(Files.readAllLines(Path.of("../shared/DOC.md")));
        classesInside(names);
        Path source = Path.of("src/main/java/TavernStools.java");
        text(Files.readString(source));
        methodsAreShort(Files.readAllLines(source));
        Checks.end();
    }

    /** The methods are those of the document, with what each may throw; answers their names. */
    private static Set<String> members(List<String> document) {
        Class<?> face = TavernStools.class;
        Checks.due("public and final", Modifier.PUBLIC | Modifier.FINAL, face.getModifiers());
        Set<String> names = new TreeSet<>();
        List<String> want = new ArrayList<>();
        for (String line : document) {
            Matcher matcher = METHOD.matcher(line);
            if (matcher.matches()) {
                names.add(matcher.group(2));
                want.add(matcher.group(1) + " " + matcher.group(2) + "(" + matcher.group(3).replaceAll(" \\w+(?=,|$)", "")
                        + ") throws " + (matcher.group(4) == null ? "" : matcher.group(4)));
            }
        }
        List<String> open = new ArrayList<>();
        for (Method method : face.getDeclaredMethods()) {
            if (!Modifier.isPrivate(method.getModifiers())) {
                Checks.due(method + " is public", Modifier.PUBLIC, method.getModifiers());
                open.add(method.getReturnType() + " " + method.getName() + "(" + simple(method.getParameterTypes())
                        + ") throws " + simple(method.getExceptionTypes()));
            }
        }
        Checks.due("36 methods", 36, open.size());
        Checks.due("the face", new TreeSet<>(want), new TreeSet<>(open));
        Constructor<?>[] constructors = face.getDeclaredConstructors();
        Checks.due("one constructor", 1, constructors.length);
        Checks.due("a public constructor", Modifier.PUBLIC, constructors[0].getModifiers());
        for (Field field : face.getDeclaredFields()) {
            Checks.due(field + " is private", true, Modifier.isPrivate(field.getModifiers()));
        }
        return names;
    }

    private static String simple(Class<?>[] types) {
        List<String> all = new ArrayList<>();
        for (Class<?> type : types) {
            all.add(type.getSimpleName());
        }
        return String.join(", ", all);
    }

    private static void classesInside(Set<String> names) {
        List<Class<?>> all = new ArrayList<>(Arrays.asList(TavernStools.class.getDeclaredClasses()));
        Checks.due("few classes", true, all.size() < 12);
        for (Class<?> inside : all) {
            Checks.due(inside + " is static", true, Modifier.isStatic(inside.getModifiers()));
            Checks.due(inside + " is private", true, Modifier.isPrivate(inside.getModifiers()));
        }
        all.add(TavernStools.class);
        for (Class<?> one : all) {
            int fields = 0;
            for (Field field : one.getDeclaredFields()) {
                boolean isStatic = Modifier.isStatic(field.getModifiers());
                fields += isStatic ? 0 : 1;
                Checks.due(field + " is final if static", true, !isStatic || Modifier.isFinal(field.getModifiers()));
            }
            Checks.due(one + " has few fields", true, fields <= 20);
            methodsOf(one, names);
        }
    }

    private static void methodsOf(Class<?> one, Set<String> names) {
        for (Method method : one.getDeclaredMethods()) {
            Checks.due(method + " has few parameters", true, method.getParameterCount() <= 7);
            boolean isFace = Modifier.isPublic(method.getModifiers());
            Checks.due(method + " has a name of its own", isFace, names.contains(method.getName()));
        }
    }

    private static void text(String source) {
        String code = source.replaceAll("//[^\\n]*|/\\*\\*[^*]*\\*/", "");
        for (String forbidden : FORBIDDEN) {
            Matcher matcher = Pattern.compile(forbidden).matcher(code);
            Checks.due("no " + forbidden, "", matcher.find() ? matcher.group() : "");
        }
        Matcher imports = Pattern.compile("(?m)^import .*$").matcher(code);
        Checks.due("an import", true, imports.find());
        Checks.due("the import", "import java.util.NoSuchElementException;", imports.group());
        Checks.due("no other import", false, imports.find());
    }

    private static void methodsAreShort(List<String> lines) {
        int start = 0;
        for (int number = 0; number < lines.size(); number++) {
            String line = lines.get(number);
            if (line.endsWith("{") && line.matches(" {4,8}\\S.*\\).*")) {
                start = number;
            }
            boolean ends = line.equals("    }") || line.equals("        }");
            boolean isMethod = lines.get(start).indexOf(lines.get(start).trim()) == line.length() - 1;
            if (ends && isMethod) {
                Checks.due("the method at line " + (start + 1) + " is short", true, number - start < 60);
            }
        }
    }
}
