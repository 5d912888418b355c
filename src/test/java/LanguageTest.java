import java.io.IOException;
import java.lang.reflect.Constructor;
import java.lang.reflect.Field;
import java.lang.reflect.Method;
import java.lang.reflect.Modifier;
import java.nio.file.Files;
import java.nio.file.Path;
import java.util.Arrays;
import java.util.List;
import java.util.Set;
import java.util.TreeSet;
import java.util.regex.Matcher;
import java.util.regex.Pattern;

/** The public face, and those rules of ../shared/LANGUAGE.md that can be seen without understanding the program. */
public final class LanguageTest {
    private static final String[] FACE = {"feed int int long", "coast int", "cell int int int", "set int int int int",
        "way int int int int int", "shut int int boolean", "river int int int int", "moon int int int",
        "put int int int boolean int", "tons int int int boolean", "depth int int", "lacks int int", "dredger int int int",
        "takes int", "go int int", "cost long int", "holds int int", "alone int int", "back int int int int int int",
        "bestDrop int int", "bestPlan int int", "leastCap int int", "wall int int", "share int int int", "row int int",
        "judge int int", "image int", "restore int", "count int int"};

    public static void main(String[] args) throws IOException {
        face();
        classesInside();
        words(codeOf(Files.readString(Path.of("src/main/java/HarbourMud.java"))));
        lines(Files.readAllLines(Path.of("src/main/java/HarbourMud.java")));
        Checks.end("LanguageTest");
    }

    private static void face() {
        Class<?> c = HarbourMud.class;
        Checks.due("public and final", c.getModifiers(), Modifier.PUBLIC | Modifier.FINAL);
        Constructor<?>[] made = c.getDeclaredConstructors();
        Checks.due("one constructor, public, of nothing",
            made.length == 1 && Modifier.isPublic(made[0].getModifiers()) && made[0].getParameterCount() == 0 ? 1 : 0, 1);
        Set<String> seen = new TreeSet<>();
        Set<String> names = new TreeSet<>();
        for (Method m : c.getDeclaredMethods()) {
            if (!Modifier.isPrivate(m.getModifiers())) {
                StringBuilder row = new StringBuilder(m.getName() + " " + m.getReturnType());
                for (Class<?> p : m.getParameterTypes()) {
                    row.append(' ').append(p);
                }
                seen.add(row.toString());
                names.add(m.getName());
            }
        }
        Checks.same("the face", seen.toString(), new TreeSet<>(Arrays.asList(FACE)).toString());
        for (Method m : c.getDeclaredMethods()) {
            boolean isPrivate = Modifier.isPrivate(m.getModifiers());
            Checks.due("no private " + m.getName(), isPrivate && names.contains(m.getName()) ? 1 : 0, 0);
        }
        for (Field f : c.getDeclaredFields()) {
            Checks.due("private " + f.getName(), Modifier.isPrivate(f.getModifiers()) ? 1 : 0, 1);
        }
    }

    private static void classesInside() {
        Class<?>[] inside = HarbourMud.class.getDeclaredClasses();
        Checks.due("some twelve classes", inside.length <= 11 ? 1 : 0, 1);
        for (Class<?> c : inside) {
            Checks.due("static " + c, Modifier.isStatic(c.getModifiers()) ? 1 : 0, 1);
            Checks.due("not public " + c, c.getModifiers() & (Modifier.PUBLIC | Modifier.PROTECTED), 0);
            long fields = Arrays.stream(c.getDeclaredFields()).filter(f -> !Modifier.isStatic(f.getModifiers())).count();
            Checks.due("some twenty fields " + c, fields <= 20 ? 1 : 0, 1);
            for (Field f : c.getDeclaredFields()) {
                boolean isStatic = Modifier.isStatic(f.getModifiers());
                Checks.due("static is final " + f, isStatic && !Modifier.isFinal(f.getModifiers()) ? 1 : 0, 0);
            }
            for (Method m : c.getDeclaredMethods()) {
                Checks.due("seven parameters " + m, m.getParameterCount() <= 7 ? 1 : 0, 1);
            }
        }
    }

    /** Without comments, and without what stands in quotes. */
    private static String codeOf(String source) {
        String code = source.replaceAll("(?s)/\\*.*?\\*/", " ").replaceAll("//[^\n]*", " ");
        return code.replaceAll("'(\\\\.|[^'\\\\])'", "' '").replaceAll("\"(\\\\.|[^\"\\\\])*\"", "\"\"");
    }

    private static void words(String code) {
        List<String> forbidden = List.of("throw", "throws", "try", "catch", "finally", "synchronized", "assert", "import",
            "package", "volatile", "native", "protected", "hashCode", "toString", "Object", "Exact", "Long", "Arrays");
        for (String word : forbidden) {
            Checks.due("the word " + word, Pattern.compile("\\b" + word + "\\b").matcher(code).find() ? 1 : 0, 0);
        }
        Checks.due("no lambda", code.contains("->") ? 1 : 0, 0);
        Checks.due("no method reference", code.contains("::") ? 1 : 0, 0);
        Matcher dots = Pattern.compile("\\b([A-Z]\\w*)\\.(\\w+)\\(").matcher(code);
        Set<String> library = new TreeSet<>();
        while (dots.find()) {
            library.add(dots.group(1) + "." + dots.group(2));
        }
        library.removeAll(Set.of("Dredger.greatest", "Math.max", "Math.min", "System.arraycopy"));
        Checks.same("what it calls beside", library.toString(), "[]");
    }

    private static void lines(List<String> lines) {
        int start = -1;
        Pattern head = Pattern.compile("^( {4}| {8})(public |private |static |final )*[\\w\\[\\]]+ \\w+\\(.*\\) \\{$");
        for (int i = 0; i < lines.size(); i++) {
            String line = lines.get(i);
            Checks.due("signs 1 to 127 in line " + (i + 1), line.chars().allMatch(sign -> sign < 128) ? 1 : 0, 1);
            Checks.due("length of line " + (i + 1), line.length() <= 120 ? 1 : 0, 1);
            if (head.matcher(line).matches()) {
                start = i;
            }
            if (start >= 0 && line.equals(lines.get(start).replaceAll("\\S.*", "}"))) {
                Checks.due("lines of the method at " + (start + 1), i - start + 1 <= 60 ? 1 : 0, 1);
                start = -1;
            }
        }
    }
}
