import java.util.Objects;

/** Counts the answers of one test that are not as they are due, and prints them. */
final class Checks {
    interface Call {
        Object answer();
    }

    private final String test;
    private int looked;
    private int wrong;
    private String part = "";

    Checks(String test) {
        this.test = test;
    }

    /** Names the promise that the next checks are about. */
    void promise(int number) {
        part = "promise " + number + ": ";
    }

    /** The answer of a call as a text; an exception counts as an answer, too. */
    static String answerOf(Call call) {
        try {
            return String.valueOf(call.answer());
        } catch (RuntimeException e) {
            return "throws." + e.getClass().getName().replace("java.lang.", "");
        }
    }

    void due(String what, Object want, Call call) {
        same(what, String.valueOf(want), answerOf(call));
    }

    /** As due(), and nothing must change by it: neither the digest, nor what will be answered later. */
    void idle(String what, Twoends x, Object want, Call call) {
        long before = x.digest();
        String future = Futures.of(x);
        due(what, want, call);
        same(what + " changed something: digest", before, x.digest());
        same(what + " changed what comes later:", future, Futures.of(x));
    }

    void index(String what, Twoends x, Call call) {
        idle(what, x, "throws.IndexOutOfBoundsException", call);
    }

    void argument(String what, Twoends x, Call call) {
        idle(what, x, "throws.IllegalArgumentException", call);
    }

    void state(String what, Twoends x, Call call) {
        idle(what, x, "throws.IllegalStateException", call);
    }

    void same(String what, Object want, Object got) {
        looked++;
        if (!Objects.equals(want, got)) {
            wrong++;
            System.out.println(test + ": " + part + what + " answered " + got + ", due is " + want);
        }
    }

    void end() {
        System.out.println(test + ": " + looked + " answers looked at, " + wrong + " wrong");
        if (wrong != 0 || looked == 0) {
            System.exit(1);
        }
    }
}
