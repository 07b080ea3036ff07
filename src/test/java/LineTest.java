/** Promises 23 to 29: the line by its places. */
public final class LineTest {
    private static final Checks c = new Checks("LineTest");

    public static void main(String[] args) {
        insert();
        cut();
        replace();
        at();
        find();
        splice();
        shunt();
        c.end();
    }

    private static Twoends yard() {
        Twoends x = new Twoends();
        x.train(1, 1, 10, 5);
        x.train(0, 6, 20, 3);
        x.stand(0, 2);
        x.forth(0);
        x.walk(false);
        return x;
    }

    private static final String SIDING = "620 727 834";
    private static final String LINE = "110 217 324 431 538";

    private static void texts(Twoends x, String siding, String line) {
        c.due("text(0, false)", siding, () -> x.text(0, false));
        c.due("text(1, false)", line, () -> x.text(1, false));
    }

    private static void torn(Twoends x) {
        c.due("slips torn", 0, () -> x.yard(3));
        c.due("isSound", true, x::isSound);
    }

    private static void staleAndWalk(Twoends x) {
        torn(x);
        c.due("walker stale", 2, () -> x.where(0, 0));
        c.due("walker nowhere", 0, () -> x.where(1, 0));
        c.due("walk as before", 1, () -> x.yard(5));
    }

    private static Twoends full() {
        Twoends x = new Twoends();
        x.train(1, 1, 0, 12);
        x.train(1, 1, 0, 8);
        return x;
    }

    private static void insert() {
        c.promise(23);
        Twoends x = yard();
        c.due("insert", 6, () -> x.insert(0, 9, 9));
        staleAndWalk(x);
        texts(x, SIDING, "909 " + LINE);
        c.due("insert", 7, () -> x.insert(6, 0, 9));
        c.due("insert", 8, () -> x.insert(3, 5, 0));
        texts(x, SIDING, "909 110 217 500 324 431 538 0");
        x.append(1, 1, 1);
        x.stand(0, 2);
        c.idle("place above size", x, -9, () -> x.insert(10, 1, 1));
        c.idle("place above size", x, -9, () -> x.insert(20, 0, 0));
        c.index("place 21", x, () -> x.insert(21, 1, 1));
        c.index("place -1", x, () -> x.insert(-1, 10, 1));
        c.argument("kind 10", x, () -> x.insert(0, 10, 1));
        c.argument("kind -1", x, () -> x.insert(0, -1, 1));
        c.argument("load 100", x, () -> x.insert(20, 0, 100));
        c.argument("load -1", x, () -> x.insert(0, 1, -1));
        Twoends full = full();
        c.state("line full", full, () -> full.insert(20, 1, 1));
        c.state("line full", full, () -> full.insert(0, 0, 0));
        c.argument("line full, kind 10", full, () -> full.insert(0, 10, 0));
        full.cut(19);
        c.due("insert at the back", 20, () -> full.insert(19, 9, 98));
        c.due("at", 998, () -> full.at(19));
        Twoends empty = new Twoends();
        c.idle("place above size", empty, -9, () -> empty.insert(1, 1, 1));
        c.due("insert", 1, () -> empty.insert(0, 0, 50));
        texts(empty, "", "0");
    }

    private static void cut() {
        c.promise(24);
        Twoends x = yard();
        c.due("cut", 217, () -> x.cut(1));
        staleAndWalk(x);
        texts(x, SIDING, "110 324 431 538");
        c.due("cut", 538, () -> x.cut(3));
        c.due("cut", 110, () -> x.cut(0));
        texts(x, SIDING, "324 431");
        x.append(1, 0, 0);
        c.idle("no such place now", x, -9, () -> x.cut(3));
        c.idle("no such place now", x, -9, () -> x.cut(19));
        c.index("place 20", x, () -> x.cut(20));
        c.index("place -1", x, () -> x.cut(-1));
        c.due("cut of a gap", 0, () -> x.cut(2));
        texts(x, SIDING, "324 431");
        Twoends full = full();
        c.due("cut", 849, () -> full.cut(19));
        Twoends empty = new Twoends();
        c.idle("no such place now", empty, -9, () -> empty.cut(0));
    }

    private static void replace() {
        c.promise(25);
        Twoends x = yard();
        c.due("replace", 324, () -> x.replace(2, 9, 0));
        torn(x);
        texts(x, SIDING, "110 217 900 431 538");
        c.due("walker fresh", 1, () -> x.where(0, 0));
        c.due("walk as before", 1, () -> x.yard(5));
        c.due("walker holds it still", 3, () -> x.setHeld(0, 4, 4));
        c.due("replace by a gap", 110, () -> x.replace(0, 0, 7));
        c.due("replace of a gap", 0, () -> x.replace(0, 0, 7));
        texts(x, SIDING, "0 217 404 431 538");
        x.poll(0, true);
        c.due("replace by the same", 538, () -> x.replace(4, 5, 38));
        c.due("slips torn", 0, () -> x.yard(3));
        x.poll(0, true);
        c.idle("no such place now", x, -9, () -> x.replace(5, 1, 1));
        c.idle("no such place now", x, -9, () -> x.replace(19, 1, 1));
        c.index("place 20", x, () -> x.replace(20, 1, 1));
        c.index("place -1", x, () -> x.replace(-1, 10, 1));
        c.argument("kind 10", x, () -> x.replace(0, 10, 1));
        c.argument("kind -1", x, () -> x.replace(19, -1, 1));
        c.argument("load 100", x, () -> x.replace(0, 0, 100));
        c.argument("load -1", x, () -> x.replace(0, 1, -1));
        Twoends full = full();
        c.due("replace on a full one", 849, () -> full.replace(19, 1, 1));
    }

    private static void at() {
        c.promise(26);
        Twoends x = yard();
        x.append(1, 0, 0);
        int[] codes = {110, 217, 324, 431, 538, 0};
        for (int k = 0; k < codes.length; k++) {
            int place = k;
            c.idle("at " + k, x, codes[k], () -> x.at(place));
        }
        c.idle("no such place now", x, -9, () -> x.at(6));
        c.idle("no such place now", x, -9, () -> x.at(19));
        c.index("place 20", x, () -> x.at(20));
        c.index("place -1", x, () -> x.at(-1));
        c.index("place of the most", x, () -> x.at(Integer.MAX_VALUE));
        Twoends full = full();
        c.due("at 19", 849, () -> full.at(19));
    }

    private static void find() {
        c.promise(27);
        Twoends x = yard();
        x.train(1, 2, 1, 2);
        x.insert(3, 0, 0);
        x.insert(5, 0, 0);
        texts(x, SIDING, "110 217 324 0 431 0 538 201 308");
        c.idle("find", x, 1, () -> x.find(2, false));
        c.idle("find", x, 7, () -> x.find(2, true));
        c.idle("find of a gap", x, 3, () -> x.find(0, false));
        c.idle("find of a gap", x, 5, () -> x.find(0, true));
        c.idle("find of a single one", x, 0, () -> x.find(1, false));
        c.idle("find of a single one", x, 0, () -> x.find(1, true));
        c.idle("find of what is on the siding", x, -1, () -> x.find(6, false));
        c.idle("find of none", x, -1, () -> x.find(9, true));
        c.argument("kind 10", x, () -> x.find(10, false));
        c.argument("kind -1", x, () -> x.find(-1, true));
    }

    private static void splice() {
        c.promise(28);
        Twoends x = yard();
        c.due("splice", 3, () -> x.splice(2));
        texts(x, "", "110 217 620 727 834 324 431 538");
        torn(x);
        c.due("walker stale", 2, () -> x.where(0, 0));
        c.due("walk over", 0, () -> x.yard(5));
        x.take(1, true);
        x.stand(0, 0);
        x.walk(true);
        c.idle("siding empty", x, 0, () -> x.splice(0));
        c.idle("siding empty, above size", x, 0, () -> x.splice(20));
        c.index("siding empty, place 21", x, () -> x.splice(21));
        c.index("place -1", x, () -> x.splice(-1));
        Twoends y = yard();
        c.idle("place above size", y, -9, () -> y.splice(6));
        c.index("place 21", y, () -> y.splice(21));
        c.due("splice at the back", 3, () -> y.splice(5));
        texts(y, "", LINE + " " + SIDING);
        Twoends z = yard();
        c.due("splice at the front", 3, () -> z.splice(0));
        texts(z, "", SIDING + " " + LINE);
        Twoends full = full();
        c.idle("siding empty, line full", full, 0, () -> full.splice(20));
        full.append(0, 1, 1);
        c.state("21 together", full, () -> full.splice(0));
        full.cut(0);
        c.due("20 together", 1, () -> full.splice(19));
        Twoends both = new Twoends();
        both.train(0, 1, 0, 11);
        both.train(1, 1, 0, 10);
        c.state("21 together, above size", both, () -> both.splice(20));
        both.pop(0);
        c.idle("20 together, above size", both, -9, () -> both.splice(20));
        c.due("20 together", 10, () -> both.splice(10));
    }

    private static void shunt() {
        c.promise(29);
        Twoends x = yard();
        c.due("shunt", 2, () -> x.shunt(1, 2));
        texts(x, SIDING + " 217 324", "110 431 538");
        torn(x);
        c.due("walker stale", 2, () -> x.where(0, 0));
        c.due("walk over", 0, () -> x.yard(5));
        c.due("shunt of what is there", 2, () -> x.shunt(1, 15));
        texts(x, SIDING + " 217 324 431 538", "110");
        x.append(1, 0, 0);
        x.append(1, 0, 0);
        x.append(1, 9, 9);
        x.append(0, 1, 1);
        x.walk(false);
        x.stand(0, 1);
        x.stand(1, 1);
        c.due("shunt of gaps alone", 0, () -> x.shunt(1, 2));
        staleWalk(x);
        texts(x, SIDING + " 217 324 431 538 101", "110 909");
        x.insert(1, 0, 0);
        c.due("shunt of gaps too", 2, () -> x.shunt(0, 3));
        texts(x, SIDING + " 217 324 431 538 101 110 909", "");
        c.idle("no such place now", x, -9, () -> x.shunt(0, 1));
        Twoends y = yard();
        c.idle("no such place now", y, -9, () -> y.shunt(5, 1));
        c.idle("no such place now", y, -9, () -> y.shunt(19, 17));
        c.state("21 together", y, () -> y.shunt(0, 18));
        c.state("21 together, no such place", y, () -> y.shunt(19, 18));
        c.argument("many 0", y, () -> y.shunt(0, 0));
        c.argument("many 21", y, () -> y.shunt(0, 21));
        c.argument("many -1", y, () -> y.shunt(19, -1));
        c.index("place 20", y, () -> y.shunt(20, 0));
        c.index("place -1", y, () -> y.shunt(-1, 1));
        c.due("20 together", 5, () -> y.shunt(0, 17));
        texts(y, SIDING + " " + LINE, "");
        Twoends full = full();
        c.due("shunt of all", 20, () -> full.shunt(0, 20));
        c.state("siding full", full, () -> full.shunt(0, 1));
    }

    private static void staleWalk(Twoends x) {
        torn(x);
        c.due("walker stale", 2, () -> x.where(0, 0));
        c.due("walker stale", 2, () -> x.where(1, 0));
        c.due("walk as before", 1, () -> x.yard(5));
    }
}
