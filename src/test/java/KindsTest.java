/** Promises 13 to 19: pieces by their kind, and whole tracks. */
public final class KindsTest {
    private static final Checks c = new Checks("KindsTest");

    public static void main(String[] args) {
        drop();
        dropAll();
        shed();
        thin();
        turn();
        clear();
        purge();
        c.end();
    }

    /** SIDING 1 2 3 1 2 3, LINE gap 3 gap 4 3 gap; a walk, two walkers and 12 slips. */
    private static Twoends busy() {
        Twoends x = new Twoends();
        x.train(0, 1, 10, 3);
        x.train(0, 1, 50, 3);
        int[] kinds = {0, 3, 0, 4, 3, 0};
        for (int k = 0; k < kinds.length; k++) {
            x.append(1, kinds[k], 80 - 10 * k);
        }
        x.walk(false);
        x.step();
        x.stand(0, 2);
        return x;
    }

    private static void texts(Twoends x, String siding, String line) {
        c.due("text(0, false)", siding, () -> x.text(0, false));
        c.due("text(1, false)", line, () -> x.text(1, false));
    }

    private static final String SIDING = "110 217 324 150 257 364";
    private static final String LINE = "0 370 0 450 340 0";

    /** What is left of slips, walk and walker after a change of the siding. */
    private static void afterSiding(Twoends x) {
        c.due("slips torn", 0, () -> x.yard(3));
        c.due("walk over", 0, () -> x.yard(5));
        c.due("walker as before", 1, () -> x.where(0, 0));
        c.due("walker nowhere", 0, () -> x.where(1, 0));
        c.due("isSound", true, x::isSound);
    }

    private static void afterLine(Twoends x) {
        c.due("slips torn", 0, () -> x.yard(3));
        c.due("walk as before", 1, () -> x.yard(5));
        c.due("walker stale", 2, () -> x.where(0, 0));
        c.due("walker nowhere", 0, () -> x.where(1, 0));
        c.due("isSound", true, x::isSound);
    }

    private static void drop() {
        c.promise(13);
        Twoends x = busy();
        c.due("drop", true, () -> x.drop(0, 2, false));
        texts(x, "110 324 150 257 364", LINE);
        afterSiding(x);
        Twoends y = busy();
        c.due("drop", true, () -> y.drop(0, 2, true));
        texts(y, "110 217 324 150 364", LINE);
        Twoends z = busy();
        c.due("drop", true, () -> z.drop(1, 0, true));
        texts(z, SIDING, "0 370 0 450 340");
        afterLine(z);
        c.due("drop", true, () -> z.drop(1, 3, false));
        texts(z, SIDING, "0 0 450 340");
        Twoends w = busy();
        c.idle("drop of none", w, false, () -> w.drop(0, 4, false));
        c.idle("drop of none", w, false, () -> w.drop(1, 1, true));
        c.argument("gap of the siding", w, () -> w.drop(0, 0, false));
        c.argument("kind 10", w, () -> w.drop(0, 10, false));
        c.argument("kind 10", w, () -> w.drop(1, 10, false));
        c.argument("kind -1", w, () -> w.drop(1, -1, false));
        c.index("no track", w, () -> w.drop(2, 0, false));
        c.index("no track", w, () -> w.drop(-1, 10, false));
        Twoends n = new Twoends();
        c.idle("drop of an empty one", n, false, () -> n.drop(1, 0, false));
    }

    private static void dropAll() {
        c.promise(14);
        Twoends x = busy();
        c.due("dropAll", 2, () -> x.dropAll(0, 2));
        texts(x, "110 324 150 364", LINE);
        afterSiding(x);
        Twoends y = busy();
        c.due("dropAll", 3, () -> y.dropAll(1, 0));
        texts(y, SIDING, "370 450 340");
        afterLine(y);
        Twoends z = new Twoends();
        z.append(1, 4, 1);
        z.append(1, 4, 2);
        z.append(1, 4, 3);
        c.due("dropAll of neighbours", 3, () -> z.dropAll(1, 4));
        texts(z, "", "");
        Twoends w = busy();
        c.idle("dropAll of none", w, 0, () -> w.dropAll(0, 9));
        c.idle("dropAll of none", w, 0, () -> w.dropAll(1, 9));
        c.argument("gap of the siding", w, () -> w.dropAll(0, 0));
        c.argument("kind 10", w, () -> w.dropAll(1, 10));
        c.argument("kind -1", w, () -> w.dropAll(1, -1));
        c.index("no track", w, () -> w.dropAll(2, 0));
        c.index("no track", w, () -> w.dropAll(-1, 10));
    }

    private static void shed() {
        c.promise(15);
        Twoends x = busy();
        c.due("shed", 74, () -> x.shed(0, false, 24, 2));
        texts(x, "110 217 257 364", LINE);
        afterSiding(x);
        Twoends y = busy();
        c.due("shed", 64 + 57 + 50 + 24, () -> y.shed(0, true, 24, 20));
        texts(y, "110 217", LINE);
        Twoends z = busy();
        c.due("shed of gaps too", 40, () -> z.shed(1, true, 0, 2));
        texts(z, SIDING, "0 370 0 450");
        afterLine(z);
        Twoends g = busy();
        c.due("shed of a gap alone", 0, () -> g.shed(1, false, 0, 1));
        texts(g, SIDING, "370 0 450 340 0");
        afterLine(g);
        Twoends a = busy();
        c.due("shed of all", 160, () -> a.shed(1, false, 0, 20));
        texts(a, SIDING, "");
        Twoends b = busy();
        c.due("shed from the back", 50, () -> b.shed(1, true, 50, 1));
        texts(b, SIDING, "0 370 0 340 0");
        Twoends w = busy();
        c.idle("shed of none", w, 0, () -> w.shed(0, false, 65, 20));
        c.idle("shed of none", w, 0, () -> w.shed(1, true, 71, 20));
        Twoends none = new Twoends();
        none.append(0, 1, 1);
        none.stand(0, 0);
        c.idle("shed of an empty one", none, 0, () -> none.shed(1, false, 0, 20));
        c.idle("shed of an empty one", none, 0, () -> none.shed(1, true, 0, 20));
        c.argument("load -1", w, () -> w.shed(0, false, -1, 1));
        c.argument("load 100", w, () -> w.shed(0, false, 100, 1));
        c.argument("many 0", w, () -> w.shed(1, false, 0, 0));
        c.argument("many 21", w, () -> w.shed(1, false, 0, 21));
        c.index("no track", w, () -> w.shed(2, false, 0, 1));
        c.index("no track", w, () -> w.shed(-1, false, 0, 21));
    }

    private static void thin() {
        c.promise(16);
        Twoends x = busy();
        c.due("thin", 3, () -> x.thin(0, false, 2));
        texts(x, "110 324 257", LINE);
        afterSiding(x);
        Twoends y = busy();
        c.due("thin", 3, () -> y.thin(0, true, 2));
        texts(y, "217 150 364", LINE);
        Twoends z = busy();
        c.due("thin", 1, () -> z.thin(1, true, 5));
        texts(z, SIDING, "0 0 450 340 0");
        afterLine(z);
        Twoends f = new Twoends();
        f.train(1, 1, 0, 12);
        c.due("thin by 4", 3, () -> f.thin(1, false, 4));
        texts(f, "", "100 207 314 528 635 742 956 163 270");
        Twoends w = busy();
        w.take(0, true);
        w.take(0, true);
        w.walk(true);
        c.idle("thin of none", w, 0, () -> w.thin(0, false, 5));
        c.argument("step 1", w, () -> w.thin(0, false, 1));
        c.argument("step 0", w, () -> w.thin(0, false, 0));
        c.argument("step 6", w, () -> w.thin(1, false, 6));
        c.index("no track", w, () -> w.thin(2, false, 2));
        c.index("no track", w, () -> w.thin(-1, false, 0));
        Twoends one = new Twoends();
        one.append(0, 1, 1);
        c.idle("thin of none", one, 0, () -> one.thin(0, true, 2));
    }

    private static void turn() {
        c.promise(17);
        Twoends x = busy();
        c.due("turn", 364, () -> x.turn(0));
        texts(x, "364 257 150 324 217 110", LINE);
        afterSiding(x);
        Twoends y = busy();
        y.cut(5);
        y.append(0, 1, 1);
        y.walk(false);
        y.stand(0, 0);
        c.due("turn", 340, () -> y.turn(1));
        texts(y, SIDING + " 101", "340 450 0 370 0");
        afterLine(y);
        Twoends one = new Twoends();
        one.append(0, 4, 5);
        one.walk(true);
        c.due("turn of a single one", 405, () -> one.turn(0));
        c.due("slips torn", 0, () -> one.yard(3));
        c.due("walk over", 0, () -> one.yard(5));
        Twoends none = new Twoends();
        none.append(1, 1, 1);
        none.walk(false);
        c.idle("turn of an empty one", none, 0, () -> none.turn(0));
        c.due("turn of a single one", 101, () -> none.turn(1));
        c.index("no track", none, () -> none.turn(2));
        c.index("no track", none, () -> none.turn(-1));
    }

    private static void clear() {
        c.promise(18);
        Twoends x = busy();
        c.due("clear", 6, () -> x.clear(0));
        texts(x, "", LINE);
        afterSiding(x);
        Twoends y = busy();
        c.due("clear", 6, () -> y.clear(1));
        texts(y, SIDING, "");
        afterLine(y);
        y.append(0, 7, 7);
        y.walk(true);
        y.stand(1, 0);
        c.idle("clear of an empty one", y, 0, () -> y.clear(1));
        c.index("no track", y, () -> y.clear(2));
        c.index("no track", y, () -> y.clear(-1));
    }

    private static void purge() {
        c.promise(19);
        Twoends x = busy();
        c.due("purge(false)", 2, () -> x.purge(false));
        texts(x, SIDING, "0 0 450 0");
        afterLine(x);
        x.append(0, 7, 7);
        x.walk(true);
        x.stand(0, 3);
        c.idle("purge of none", x, 0, () -> x.purge(false));
        Twoends y = busy();
        c.due("purge(true)", 4, () -> y.purge(true));
        texts(y, SIDING, "370 340");
        afterLine(y);
        y.append(0, 7, 7);
        y.stand(0, 0);
        c.idle("purge of none", y, 0, () -> y.purge(true));
        Twoends z = busy();
        z.clear(0);
        z.stand(0, 0);
        c.idle("purge(false), siding empty", z, 0, () -> z.purge(false));
        c.due("purge(true), siding empty", 6, () -> z.purge(true));
        c.due("walker stale", 2, () -> z.where(0, 0));
        Twoends none = new Twoends();
        none.append(0, 1, 1);
        c.idle("purge, line empty", none, 0, () -> none.purge(true));
    }
}
