import java.io.IOException;
import java.lang.reflect.Method;
import java.nio.file.Files;
import java.nio.file.Path;
import java.util.ArrayList;
import java.util.HashMap;
import java.util.List;
import java.util.Map;
import java.util.regex.Matcher;
import java.util.regex.Pattern;

/**
 * The sentences of the document, quoted in src/test/edges.txt, each with the runs of calls that it decides.
 *
 * <pre>
 * # a remark
 * let NAME = calls                a name for some calls
 * == 12                           the promise that follows (0: the Description)
 * > a sentence                    quoted from the document, runs follow
 * | a sentence                    quoted, but it only gives names to things: no runs
 * call; call = 3; call == 3       a run on a new object; a row that begins with blanks goes on with it
 * </pre>
 *
 * A call with = has that answer, with == it changes nothing besides. REFUSED, false and an exception (Index,
 * Argument, State) always change nothing. Before a call 12x tells that it is made 12 times. Each call of a run
 * is answered by YardModel as well. The test fails if a sentence is not quoted, or its runs are missing.
 */
public final class EdgesTest {
    private static final Checks c = new Checks("EdgesTest");
    private static final Pattern CALL = Pattern.compile(
            "(?:(\\d+)x )?(\\w+)\\(([^)]*)\\)(?: (==?) (.+))?");
    private static final Map<String, String> EXCEPTIONS = Map.of(
            "Index", "throws.IndexOutOfBoundsException",
            "Argument", "throws.IllegalArgumentException",
            "State", "throws.IllegalStateException");

    private final Map<String, String> names = new HashMap<>();
    private final Map<Integer, Section> sections = new HashMap<>();
    private int promise;
    private String quote = "";
    private boolean isTested = true;

    /** The text of a promise, and which signs of it are quoted. */
    private static final class Section {
        private final String text;
        private final boolean[] quoted;

        Section(String text) {
            this.text = text;
            this.quoted = new boolean[text.length()];
        }

        boolean quote(String sentence) {
            int from = text.indexOf(sentence);
            for (int k = from; from >= 0 && k < from + sentence.length(); k++) {
                quoted[k] = true;
            }
            return from >= 0 && !sentence.isEmpty();
        }

        String rest() {
            StringBuilder rest = new StringBuilder();
            for (int k = 0; k < quoted.length; k++) {
                rest.append(quoted[k] ? ' ' : text.charAt(k));
            }
            return rest.toString().strip();
        }
    }

    public static void main(String[] args) throws IOException {
        EdgesTest test = new EdgesTest();
        test.readDocument(Files.readString(Path.of("../shared/DOC.md")));
        for (String row : wholeRows(Files.readAllLines(Path.of("src/test/edges.txt")))) {
            test.readRow(row);
        }
        test.endQuote();
        test.sections.forEach((number, section) -> {
            c.promise(number);
            c.same("sentences that have no test", "", section.rest());
        });
        c.end();
    }

    private static String plain(String text) {
        return text.replace("`", "").replaceAll("\\s+", " ").strip();
    }

    /** Keeps what each promise says, without its signature, its headings and the names of its arguments. */
    private void readDocument(String document) {
        String[] parts = document.split("\n## ");
        for (String part : parts) {
            Matcher number = Pattern.compile("Promise (\\d+):").matcher(part);
            boolean isPromise = number.lookingAt();
            if (!isPromise && !part.startsWith("Description")) {
                continue;
            }
            StringBuilder said = new StringBuilder();
            for (String row : part.substring(part.indexOf('\n')).split("\n")) {
                if (!row.matches("`.*\\).*`|----.*|- `\\w+`: (a|the) [\\w ]+|\\d\\. .*")) {
                    said.append(row.replaceFirst("^- ", "")).append('\n');
                }
            }
            sections.put(isPromise ? Integer.parseInt(number.group(1)) : 0, new Section(plain(said.toString())));
        }
        c.same("sections of the document", 52, sections.size());
    }

    private static List<String> wholeRows(List<String> rows) {
        List<String> whole = new ArrayList<>();
        for (String row : rows) {
            if (row.startsWith(" ")) {
                int last = whole.size() - 1;
                whole.set(last, whole.get(last) + " " + row.strip());
            } else if (!row.isBlank() && !row.startsWith("#")) {
                whole.add(row.strip());
            }
        }
        return whole;
    }

    private void readRow(String row) {
        if (row.startsWith("let ")) {
            String[] sides = row.substring(4).split(" = ", 2);
            names.put(sides[0], sides[1]);
        } else if (row.startsWith("== ")) {
            endQuote();
            promise = Integer.parseInt(row.substring(3));
            c.promise(promise);
        } else if (row.startsWith("> ") || row.startsWith("| ")) {
            endQuote();
            quote = plain(row.substring(2));
            isTested = row.startsWith("|");
            c.same("the document says: " + quote, true, sections.get(promise).quote(quote));
        } else {
            isTested = true;
            run(row);
        }
    }

    private void endQuote() {
        c.same("a run for: " + quote, true, isTested);
    }

    private List<String> calls(String row) {
        List<String> calls = new ArrayList<>();
        for (String call : row.split(";")) {
            String own = call.strip();
            String name = own.split(" ")[0];
            if (names.containsKey(name)) {
                calls.addAll(calls(names.get(name) + own.substring(name.length())));
            } else if (!own.isEmpty()) {
                calls.add(own);
            }
        }
        return calls;
    }

    private void run(String row) {
        Twoends x = new Twoends();
        YardModel model = new YardModel();
        for (String told : calls(row)) {
            Matcher call = CALL.matcher(told);
            if (!call.matches() || Calls.method(call.group(2)) == null) {
                c.same("a call that can be read in " + row, "", told);
                return;
            }
            int times = call.group(1) == null ? 1 : Integer.parseInt(call.group(1));
            for (int k = 0; k < times; k++) {
                answer(x, model, call, quote + ": " + row + ": " + told);
                c.same(row + ": the digest after " + told, model.digest(), x.digest());
            }
        }
        c.due(row + ": isSound", true, x::isSound);
    }

    private void answer(Twoends x, YardModel model, Matcher call, String what) {
        Method method = Calls.method(call.group(2));
        Object[] values = Calls.values(method, call.group(3));
        String want = Calls.answerOf(twin(method), model, values);
        if (call.group(5) == null) {
            c.same(what, want, Calls.answerOf(method, x, values));
            return;
        }
        String due = due(call.group(5));
        boolean isIdle = call.group(4).equals("==") || due.equals("-9") || due.equals("false")
                || EXCEPTIONS.containsValue(due);
        if (isIdle) {
            c.idle(what, x, due, () -> Calls.call(method, x, values));
        } else {
            c.due(what, due, () -> Calls.call(method, x, values));
        }
        c.same("the model: " + what, due, want);
    }

    private static String due(String told) {
        return told.startsWith("\"") ? told.substring(1, told.length() - 1) : EXCEPTIONS.getOrDefault(told, told);
    }

    private static Method twin(Method method) {
        try {
            return YardModel.class.getMethod(method.getName(), method.getParameterTypes());
        } catch (NoSuchMethodException e) {
            throw new IllegalStateException(e);
        }
    }
}
