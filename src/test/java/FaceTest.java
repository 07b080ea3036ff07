import java.io.IOException;
import java.lang.reflect.Field;
import java.lang.reflect.Method;
import java.lang.reflect.Modifier;
import java.nio.file.Files;
import java.nio.file.Path;
import java.util.ArrayList;
import java.util.Arrays;
import java.util.List;
import java.util.Set;
import java.util.TreeSet;
import java.util.regex.Pattern;
import java.util.stream.Collectors;

/** The public face of the document, and those rules of LANGUAGE.md that can be read off the class or its file. */
public final class FaceTest {
    private static final Checks c = new Checks("FaceTest");

    public static void main(String[] args) throws IOException {
        face();
        nothingElse();
        words();
        sizes();
        c.end();
    }

    private static void face() throws IOException {
        Set<String> due = new TreeSet<>();
        String doc = Files.readString(Path.of("../shared/DOC.md"));
        int begin = doc.indexOf("public final class Twoends {");
        for (String row : doc.substring(begin, doc.indexOf("\n}", begin)).split("\n")) {
            if (row.contains("(") && !row.contains("Twoends()")) {
                due.add(row.strip().replaceAll("(int|boolean|long) \\w+(?=[,)])", "$1").replace(";", ""));
            }
        }
        Set<String> got = new TreeSet<>();
        for (Method method : Twoends.class.getDeclaredMethods()) {
            if (!Modifier.isPrivate(method.getModifiers())) {
                got.add(signature(method));
            }
        }
        c.same("the face", due, got);
        c.same("constructors", "[public Twoends()]", Arrays.toString(Twoends.class.getDeclaredConstructors()));
        c.same("public final", Modifier.PUBLIC | Modifier.FINAL, Twoends.class.getModifiers());
    }

    private static String names(Class<?>[] classes) {
        return Arrays.stream(classes).map(Class::getSimpleName).collect(Collectors.joining(", "));
    }

    private static String signature(Method method) {
        String thrown = names(method.getExceptionTypes());
        return Modifier.toString(method.getModifiers()) + " " + method.getReturnType().getSimpleName() + " "
                + method.getName() + "(" + names(method.getParameterTypes()) + ")"
                + (thrown.isEmpty() ? "" : " throws " + thrown);
    }

    private static void nothingElse() {
        Set<String> open = new TreeSet<>();
        Set<String> closed = new TreeSet<>();
        for (Method method : Twoends.class.getDeclaredMethods()) {
            (Modifier.isPrivate(method.getModifiers()) ? closed : open).add(method.getName());
        }
        for (Field field : Twoends.class.getDeclaredFields()) {
            c.same("private: " + field, true, Modifier.isPrivate(field.getModifiers()));
            boolean isStatic = Modifier.isStatic(field.getModifiers());
            c.same("final, if static: " + field, true, !isStatic || Modifier.isFinal(field.getModifiers()));
        }
        Class<?>[] inside = Twoends.class.getDeclaredClasses();
        c.same("at most twelve classes", true, inside.length < 12);
        for (Class<?> own : inside) {
            c.same("static: " + own, true, Modifier.isStatic(own.getModifiers()));
            c.same("not public: " + own, false, Modifier.isPublic(own.getModifiers()));
            for (Method method : own.getDeclaredMethods()) {
                closed.add(method.getName());
            }
        }
        closed.retainAll(open);
        c.same("names of the face used twice", "[]", closed.toString());
    }

    private static void words() throws IOException {
        String source = Files.readString(Path.of("src/main/java/Twoends.java"));
        String code = source.replaceAll("(?s)/\\*.*?\\*/", "").replaceAll("//[^\n]*", "");
        List<String> banned = List.of("\\bimport\\b", "\\bpackage\\b", "\\bcatch\\b", "\\bfinally\\b",
                "\\bsynchronized\\b", "\\bassert\\b", "\\bprotected\\b", "->", "::", "\\bequals\\b",
                "\\bhashCode\\b", "\\bSystem\\.", "\\bfloat\\b", "\\bdouble\\b", "Exact\\b", "\" *\\+", "\\+ *\"");
        for (String word : banned) {
            c.same("use of " + word, false, Pattern.compile(word).matcher(code).find());
        }
        c.same("signs 1 to 127", true, source.chars().allMatch(sign -> sign >= 1 && sign <= 127));
    }

    /** Rule 11: parameters, lines of a method and fields of a class. */
    private static void sizes() throws IOException {
        List<Class<?>> all = new ArrayList<>(List.of(Twoends.class.getDeclaredClasses()));
        all.add(Twoends.class);
        for (Class<?> own : all) {
            long fields = Arrays.stream(own.getDeclaredFields())
                    .filter(field -> !Modifier.isStatic(field.getModifiers())).count();
            c.same("at most twenty fields: " + own, true, fields <= 20);
            for (Method method : own.getDeclaredMethods()) {
                c.same("at most seven parameters: " + method, true, method.getParameterCount() <= 7);
            }
        }
        List<String> rows = Files.readAllLines(Path.of("src/main/java/Twoends.java"));
        for (int from = 0; from < rows.size(); from++) {
            String row = rows.get(from);
            String indent = row.substring(0, row.length() - row.stripLeading().length());
            if (row.endsWith("{") && !row.contains(" class ") && (indent.length() == 4 || indent.length() == 8)) {
                int to = rows.subList(from, rows.size()).indexOf(indent + "}");
                c.same("at most sixty lines: " + row.strip(), true, to > 0 && to < 60);
            }
        }
    }
}
