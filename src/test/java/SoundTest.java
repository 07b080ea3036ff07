import java.lang.reflect.Field;

/**
 * Promise 50 from the other side. No calls can bring about an unsound state, so each of these breaks the
 * private state of an object by reflection, to see that isSound() looks at it.
 */
public final class SoundTest {
    private static final Checks c = new Checks("SoundTest");

    public static void main(String[] args) throws ReflectiveOperationException {
        c.promise(50);
        Twoends whole = yard();
        c.due("a whole yard", true, whole::isSound);

        Twoends x = yard();
        code(x, "siding", 1, 5);
        unsound("a gap on the siding", x);

        for (int walker = 0; walker <= 1; walker++) {
            String name = walker == 0 ? "walkerZero" : "walkerOne";
            Twoends above = yard();
            above.stand(walker, 0);
            number(part(above, name), "cleft", above.ofTrack(1, 0) + 1);
            unsound("a walker above size", above);
            Twoends below = yard();
            below.stand(walker, 0);
            number(part(below, name), "cleft", -1);
            unsound("a walker below 0", below);
        }

        Twoends many = yard();
        number(part(many, "slips"), "count", 13);
        unsound("13 slips", many);
        Twoends orders = yard();
        number(part(orders, "orders"), "count", 11);
        unsound("11 orders", orders);
        for (String track : new String[] {"siding", "line"}) {
            Twoends more = yard();
            more.cut(0);
            number(part(more, track), "count", 21);
            unsound("21 pieces", more);
            Twoends fewer = new Twoends();
            number(part(fewer, track), "count", -1);
            unsound("-1 pieces", fewer);
        }

        Twoends other = yard();
        code(other, "slips", 0, 3999);
        unsound("a piece put that is not at that end", other);
        Twoends none = new Twoends();
        none.append(1, 4, 4);
        number(part(none, "line"), "count", 0);
        unsound("a piece put, and the track empty", none);
        Twoends full = new Twoends();
        full.train(1, 1, 0, 12);
        full.train(1, 1, 0, 8);
        full.replace(0, 1, 0);
        full.pop(1);
        number(part(full, "line"), "count", 20);
        unsound("more than 20 on paper", full);
        c.end();
    }

    private static Twoends yard() {
        Twoends x = new Twoends();
        x.train(0, 1, 10, 3);
        x.train(1, 1, 10, 3);
        x.order(1);
        return x;
    }

    private static void unsound(String what, Twoends x) {
        c.due(what, false, x::isSound);
    }

    private static Object part(Object of, String name) throws ReflectiveOperationException {
        Field field = of.getClass().getDeclaredField(name);
        field.setAccessible(true);
        return field.get(of);
    }

    private static void number(Object of, String name, int value) throws ReflectiveOperationException {
        Field field = of.getClass().getDeclaredField(name);
        field.setAccessible(true);
        field.setInt(of, value);
    }

    private static void code(Twoends x, String row, int place, int value) throws ReflectiveOperationException {
        ((int[]) part(part(x, row), "cells"))[place] = value;
    }
}
