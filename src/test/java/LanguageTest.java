import java.io.IOException;
import java.lang.reflect.Constructor;
import java.lang.reflect.Field;
import java.lang.reflect.Method;
import java.lang.reflect.Modifier;
import java.nio.file.Files;
import java.nio.file.Path;
import java.util.Arrays;
import java.util.List;
import java.util.Set;
import java.util.TreeSet;
import java.util.regex.Matcher;
import java.util.regex.Pattern;

/** The public face, as the document tells it, and how many and how long LANGUAGE.md lets things be. */
public final class LanguageTest {
    public static void main(String[] args) throws IOException {
        face(faceOf(Files.readString(Path.of("../shared/DOC.md"))));
        classesInside();
        lines(Files.readAllLines(Path.of("src/main/java/HarbourMud.java")));
        Checks.end("LanguageTest");
    }

    /** What stands under "The public face": each method as its name, what it answers and what it takes. */
    private static Set<String> faceOf(String document) {
        String part = document.replaceAll("(?s).*## The public face(.*?)## .*", "$1");
        Matcher methods = Pattern.compile("public (\\w+) (\\w+)\\((.*?)\\);").matcher(part);
        Set<String> face = new TreeSet<>();
        while (methods.find()) {
            String taken = methods.group(3).replaceAll("(\\w+) \\w+", " $1").replace(",", "").replaceAll(" +", " ");
            face.add(methods.group(2) + " " + methods.group(1) + taken);
        }
        Checks.due("methods of the document's face", face.size(), 29);
        return face;
    }

    private static void face(Set<String> told) {
        Class<?> c = HarbourMud.class;
        Checks.due("public and final", c.getModifiers(), Modifier.PUBLIC | Modifier.FINAL);
        Constructor<?>[] made = c.getDeclaredConstructors();
        Checks.due("one constructor, public, of nothing",
            made.length == 1 && Modifier.isPublic(made[0].getModifiers()) && made[0].getParameterCount() == 0 ? 1 : 0, 1);
        Set<String> seen = new TreeSet<>();
        Set<String> names = new TreeSet<>();
        for (Method m : c.getDeclaredMethods()) {
            if (!Modifier.isPrivate(m.getModifiers())) {
                StringBuilder row = new StringBuilder(m.getName() + " " + m.getReturnType());
                for (Class<?> p : m.getParameterTypes()) {
                    row.append(' ').append(p);
                }
                seen.add(row.toString());
                names.add(m.getName());
            }
        }
        Checks.same("the face", seen.toString(), told.toString());
        for (Method m : c.getDeclaredMethods()) {
            boolean isPrivate = Modifier.isPrivate(m.getModifiers());
            Checks.due("no private " + m.getName(), isPrivate && names.contains(m.getName()) ? 1 : 0, 0);
        }
        for (Field f : c.getDeclaredFields()) {
            Checks.due("private " + f.getName(), Modifier.isPrivate(f.getModifiers()) ? 1 : 0, 1);
        }
    }

    private static void classesInside() {
        Class<?>[] inside = HarbourMud.class.getDeclaredClasses();
        Checks.due("some twelve classes", inside.length <= 11 ? 1 : 0, 1);
        for (Class<?> c : inside) {
            Checks.due("static " + c, Modifier.isStatic(c.getModifiers()) ? 1 : 0, 1);
            Checks.due("not public " + c, c.getModifiers() & (Modifier.PUBLIC | Modifier.PROTECTED), 0);
            long fields = Arrays.stream(c.getDeclaredFields()).filter(f -> !Modifier.isStatic(f.getModifiers())).count();
            Checks.due("some twenty fields " + c, fields <= 20 ? 1 : 0, 1);
            for (Field f : c.getDeclaredFields()) {
                boolean isStatic = Modifier.isStatic(f.getModifiers());
                Checks.due("static is final " + f, isStatic && !Modifier.isFinal(f.getModifiers()) ? 1 : 0, 0);
            }
            for (Method m : c.getDeclaredMethods()) {
                Checks.due("seven parameters " + m, m.getParameterCount() <= 7 ? 1 : 0, 1);
            }
        }
    }

    private static void lines(List<String> lines) {
        int start = -1;
        Pattern head = Pattern.compile("^( {4}| {8})(public |private |static |final )*[\\w\\[\\]]+ \\w+\\(.*\\) \\{$");
        for (int i = 0; i < lines.size(); i++) {
            String line = lines.get(i);
            Checks.due("signs 1 to 127 in line " + (i + 1), line.chars().allMatch(sign -> sign < 128) ? 1 : 0, 1);
            Checks.due("length of line " + (i + 1), line.length() <= 120 ? 1 : 0, 1);
            if (head.matcher(line).matches()) {
                start = i;
            }
            if (start >= 0 && line.equals(lines.get(start).replaceAll("\\S.*", "}"))) {
                Checks.due("lines of the method at " + (start + 1), i - start + 1 <= 60 ? 1 : 0, 1);
                start = -1;
            }
        }
    }
}
