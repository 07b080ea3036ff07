import java.io.IOException;
import java.lang.reflect.Method;
import java.nio.file.DirectoryStream;
import java.nio.file.Files;
import java.nio.file.Path;
import java.util.List;
import java.util.regex.Matcher;
import java.util.regex.Pattern;

/** README.md: its calls have the answers that stand beside them, and it names all calls and all tests. */
public final class ReadmeTest {
    private static final Checks c = new Checks("ReadmeTest");
    private static final String NEW = "Twoends yard = new Twoends();";
    private static final Pattern CALL = Pattern.compile("yard\\.(\\w+)\\((.*)\\); +// ([^:]+)(: .+)?");

    public static void main(String[] args) throws IOException {
        String readme = Files.readString(Path.of("README.md"));
        examples(readme.lines().toList());
        for (String name : Calls.names()) {
            c.same("README.md names " + name, true, readme.contains("`" + name + "`"));
        }
        try (DirectoryStream<Path> tests = Files.newDirectoryStream(Path.of("src/test/java"), "*Test.java")) {
            for (Path test : tests) {
                String name = test.getFileName().toString().replace(".java", "");
                c.same("README.md names " + name, true, readme.contains("| `" + name + "` |"));
            }
        }
        c.end();
    }

    private static void examples(List<String> rows) {
        boolean isJava = false;
        int calls = 0;
        Twoends yard = new Twoends();
        for (String row : rows) {
            if (row.startsWith("```")) {
                isJava = row.equals("```java");
            } else if (isJava && row.equals(NEW)) {
                yard = new Twoends();
            } else if (isJava) {
                example(yard, row);
                calls++;
            }
        }
        c.same("README.md has calls", true, calls > 0);
    }

    private static void example(Twoends yard, String row) {
        Matcher call = CALL.matcher(row);
        Method method = call.matches() ? Calls.method(call.group(1)) : null;
        if (method == null) {
            c.same("a call that can be read", "", row);
            return;
        }
        String want = call.group(3).replace("\"", "").replace("throws ", "throws.").strip();
        c.same(row, want, Calls.answerOf(method, yard, Calls.values(method, call.group(2))));
    }
}
