import java.lang.reflect.Array;
import java.lang.reflect.Field;
import java.lang.reflect.Modifier;

/**
 * What an object would answer from now on. A digest does not tell what the WALK and the WALKERS hold, nor
 * which PIECE comes next, so a call that is to change nothing is measured by both. The calls are made on
 * twins, which are poured from the object field by field, and leave it as it was.
 */
final class Futures {
    private interface Run {
        Object on(Twoends x);
    }

    private static final Run[] RUNS = {
        Futures::walkedOn,
        Futures::pluckedNow,
        Futures::undoneAll,
        Futures::worked,
        x -> held(x, 0),
        x -> held(x, 1),
        x -> laidAnew(x, 0),
        x -> laidAnew(x, 1),
        x -> gone(x, 0),
        x -> gone(x, 1),
    };

    private Futures() {
    }

    static String of(Twoends x) {
        StringBuilder told = new StringBuilder();
        for (Run run : RUNS) {
            Twoends twin = new Twoends();
            pour(x, twin);
            told.append(run.on(twin)).append('\n');
        }
        return told.toString();
    }

    private static String texts(Twoends x) {
        return x.text(0, false) + "|" + x.text(1, false) + "|" + x.yard(3) + "|" + x.yard(5);
    }

    private static String walkedOn(Twoends x) {
        StringBuilder told = new StringBuilder();
        for (int k = 0; k <= 20; k++) {
            told.append(Checks.answerOf(x::step)).append(' ');
        }
        return told.append(Checks.answerOf(x::pluck)).append(texts(x)).toString();
    }

    private static String pluckedNow(Twoends x) {
        return Checks.answerOf(x::pluck) + Checks.answerOf(x::step) + texts(x);
    }

    private static String undoneAll(Twoends x) {
        StringBuilder told = new StringBuilder();
        for (int k = 0; k <= 12; k++) {
            told.append(Checks.answerOf(x::undo)).append(' ');
        }
        return told.append(texts(x)).toString();
    }

    private static String worked(Twoends x) {
        return Checks.answerOf(() -> x.work(10)) + texts(x) + x.digest();
    }

    private static String held(Twoends x, int walker) {
        return Checks.answerOf(() -> x.takeHeld(walker)) + texts(x) + x.where(0, 0) + x.where(1, 0);
    }

    private static String laidAnew(Twoends x, int walker) {
        return Checks.answerOf(() -> x.setHeld(walker, 9, 99)) + texts(x);
    }

    private static String gone(Twoends x, int walker) {
        return Checks.answerOf(() -> x.forth(walker)) + Checks.answerOf(() -> x.back(walker)) + texts(x);
    }

    /** Makes an object like another one; both are of the same class and made by the same constructor. */
    private static void pour(Object from, Object into) {
        try {
            for (Field field : from.getClass().getDeclaredFields()) {
                if (!Modifier.isStatic(field.getModifiers())) {
                    field.setAccessible(true);
                    pourField(field, from, into);
                }
            }
        } catch (IllegalAccessException e) {
            throw new IllegalStateException("a twin cannot be made", e);
        }
    }

    private static void pourField(Field field, Object from, Object into) throws IllegalAccessException {
        Object value = field.get(from);
        if (field.getType().isPrimitive()) {
            field.set(into, value);
        } else if (field.getType().isArray() && field.getType().getComponentType().isPrimitive()) {
            System.arraycopy(value, 0, field.get(into), 0, Array.getLength(value));
        } else {
            pour(value, field.get(into));
        }
    }
}
