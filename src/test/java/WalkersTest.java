/** Promises 30 to 36: the walkers of the line. */
public final class WalkersTest {
    private static final Checks c = new Checks("WalkersTest");

    public static void main(String[] args) {
        stand();
        forth();
        back();
        takeHeld();
        setHeld();
        put();
        where();
        whatMakesStale();
        c.end();
    }

    private static Twoends yard() {
        Twoends x = new Twoends();
        x.train(0, 6, 20, 2);
        x.train(1, 1, 10, 4);
        x.walk(true);
        return x;
    }

    private static Twoends full() {
        Twoends x = new Twoends();
        x.train(1, 1, 0, 12);
        x.train(1, 1, 0, 8);
        return x;
    }

    private static void line(Twoends x, String want) {
        c.due("text(1, false)", want, () -> x.text(1, false));
    }

    /** State, cleft and what lies behind and ahead of a fresh walker. */
    private static void fresh(Twoends x, int walker, int cleft, int behind, int ahead) {
        c.idle("where 0", x, 1, () -> x.where(walker, 0));
        c.idle("where 1", x, cleft, () -> x.where(walker, 1));
        c.idle("where 2", x, cleft - 1, () -> x.where(walker, 2));
        c.idle("where 3", x, behind, () -> x.where(walker, 3));
        c.idle("where 4", x, ahead, () -> x.where(walker, 4));
    }

    private static void stand() {
        c.promise(30);
        Twoends x = yard();
        c.due("stand", 0, () -> x.stand(0, 0));
        fresh(x, 0, 0, 1, 0);
        c.due("the other is nowhere", 0, () -> x.where(1, 0));
        c.due("stand", 4, () -> x.stand(1, 4));
        fresh(x, 1, 4, 0, 1);
        fresh(x, 0, 0, 1, 0);
        c.due("slips stay", 6, () -> x.yard(3));
        c.due("walk stays", 2, () -> x.yard(5));
        x.forth(0);
        c.idle("stand above size", x, -9, () -> x.stand(0, 5));
        c.idle("stand above size", x, -9, () -> x.stand(0, 20));
        c.due("it holds still what it held", 1, () -> x.setHeld(0, 1, 11));
        c.due("stand anew", 1, () -> x.stand(0, 1));
        c.due("it holds nothing", -9, () -> x.setHeld(0, 1, 12));
        c.due("it holds nothing", -9, () -> x.takeHeld(0));
        x.take(1, true);
        c.idle("stand above size, stale", x, -9, () -> x.stand(1, 4));
        c.due("stale", 2, () -> x.where(1, 0));
        c.due("stand, stale", 3, () -> x.stand(1, 3));
        fresh(x, 1, 3, 0, 1);
        c.index("walker 2", x, () -> x.stand(2, 0));
        c.index("walker -1", x, () -> x.stand(-1, 0));
        c.index("place 21", x, () -> x.stand(0, 21));
        c.index("place -1", x, () -> x.stand(1, -1));
        Twoends full = full();
        c.due("stand at 20", 20, () -> full.stand(1, 20));
        Twoends empty = new Twoends();
        c.idle("stand above size, nowhere", empty, -9, () -> empty.stand(1, 1));
        c.due("nowhere", 0, () -> empty.where(1, 0));
        c.due("stand in an empty one", 0, () -> empty.stand(1, 0));
        fresh(empty, 1, 0, 0, 0);
    }

    private static void forth() {
        c.promise(31);
        Twoends x = yard();
        c.state("nowhere", x, () -> x.forth(0));
        x.replace(1, 0, 0);
        x.stand(0, 0);
        c.due("forth", 110, () -> x.forth(0));
        c.due("forth over a gap", 0, () -> x.forth(0));
        fresh(x, 0, 2, 1, 1);
        c.due("forth", 324, () -> x.forth(0));
        c.due("forth", 431, () -> x.forth(0));
        fresh(x, 0, 4, 0, 1);
        c.idle("at the end", x, -9, () -> x.forth(0));
        c.due("it holds the place that it stepped over", 4, () -> x.setHeld(0, 9, 9));
        line(x, "110 0 324 909");
        c.state("the other is nowhere", x, () -> x.forth(1));
        c.index("walker 2", x, () -> x.forth(2));
        c.index("walker -1", x, () -> x.forth(-1));
        x.stand(1, 2);
        c.due("forth", 324, () -> x.forth(1));
        x.cut(0);
        c.idle("stale", x, -9, () -> x.forth(0));
        c.idle("stale", x, -9, () -> x.forth(1));
    }

    private static void back() {
        c.promise(32);
        Twoends x = yard();
        c.state("nowhere", x, () -> x.back(1));
        x.replace(2, 0, 0);
        x.stand(1, 4);
        c.due("back", 431, () -> x.back(1));
        c.due("back over a gap", 0, () -> x.back(1));
        fresh(x, 1, 2, 1, 1);
        c.due("back", 217, () -> x.back(1));
        c.due("forth", 217, () -> x.forth(1));
        c.due("back", 217, () -> x.back(1));
        c.due("back", 110, () -> x.back(1));
        fresh(x, 1, 0, 1, 0);
        c.idle("at the end", x, -9, () -> x.back(1));
        c.due("it holds the place that it stepped over", 0, () -> x.setHeld(1, 9, 9));
        line(x, "909 217 0 431");
        c.state("the other is nowhere", x, () -> x.back(0));
        c.index("walker 2", x, () -> x.back(2));
        c.index("walker -1", x, () -> x.back(-1));
        x.append(1, 1, 1);
        c.idle("stale", x, -9, () -> x.back(1));
    }

    private static void takeHeld() {
        c.promise(33);
        Twoends x = yard();
        c.state("nowhere", x, () -> x.takeHeld(0));
        x.stand(0, 1);
        x.stand(1, 1);
        c.idle("it holds nothing", x, -9, () -> x.takeHeld(0));
        x.forth(0);
        c.due("takeHeld after forth", 1, () -> x.takeHeld(0));
        line(x, "110 324 431");
        fresh(x, 0, 1, 1, 1);
        c.due("the other is stale", 2, () -> x.where(1, 0));
        c.due("slips torn", 0, () -> x.yard(3));
        c.due("walk stays", 2, () -> x.yard(5));
        c.idle("it holds nothing", x, -9, () -> x.takeHeld(0));
        c.idle("the other is stale", x, -9, () -> x.takeHeld(1));
        c.due("forth", 324, () -> x.forth(0));
        c.due("back", 324, () -> x.back(0));
        c.due("takeHeld after back", 1, () -> x.takeHeld(0));
        line(x, "110 431");
        fresh(x, 0, 1, 1, 1);
        c.due("back", 110, () -> x.back(0));
        c.due("takeHeld after back", 0, () -> x.takeHeld(0));
        fresh(x, 0, 0, 1, 0);
        c.due("forth", 431, () -> x.forth(0));
        c.due("takeHeld after forth", 0, () -> x.takeHeld(0));
        fresh(x, 0, 0, 0, 0);
        line(x, "");
        c.due("isSound", true, x::isSound);
        c.index("walker 2", x, () -> x.takeHeld(2));
        c.index("walker -1", x, () -> x.takeHeld(-1));
        Twoends y = yard();
        y.stand(1, 0);
        y.forth(1);
        y.pop(1);
        c.idle("stale, held once", y, -9, () -> y.takeHeld(1));
        y.stand(1, 0);
        y.forth(1);
        c.due("takeHeld", 0, () -> y.takeHeld(1));
        c.due("the other is nowhere", 0, () -> y.where(0, 0));
    }

    private static void setHeld() {
        c.promise(34);
        Twoends x = yard();
        c.state("nowhere", x, () -> x.setHeld(0, 1, 1));
        c.argument("nowhere, kind 10", x, () -> x.setHeld(0, 10, 1));
        x.stand(0, 1);
        x.stand(1, 2);
        c.idle("it holds nothing", x, -9, () -> x.setHeld(0, 1, 1));
        x.forth(0);
        x.forth(1);
        c.due("setHeld", 2, () -> x.setHeld(0, 9, 98));
        line(x, "110 998 324 431");
        fresh(x, 0, 2, 1, 1);
        fresh(x, 1, 3, 1, 1);
        c.due("slips torn", 0, () -> x.yard(3));
        c.due("walk stays", 2, () -> x.yard(5));
        c.due("it holds it still", 2, () -> x.setHeld(0, 0, 50));
        c.due("the other holds still", 3, () -> x.setHeld(1, 5, 5));
        line(x, "110 0 505 431");
        c.due("it holds it still", 1, () -> x.takeHeld(0));
        line(x, "110 505 431");
        c.idle("stale", x, -9, () -> x.setHeld(1, 1, 1));
        c.argument("stale, load 100", x, () -> x.setHeld(1, 1, 100));
        x.append(0, 1, 1);
        x.back(0);
        c.due("setHeld by the same", 0, () -> x.setHeld(0, 1, 10));
        c.due("slips torn", 0, () -> x.yard(3));
        c.argument("kind 10", x, () -> x.setHeld(0, 10, 1));
        c.argument("kind -1", x, () -> x.setHeld(0, -1, 1));
        c.argument("load 100", x, () -> x.setHeld(0, 0, 100));
        c.argument("load -1", x, () -> x.setHeld(0, 1, -1));
        c.index("walker 2", x, () -> x.setHeld(2, 10, 1));
        c.index("walker -1", x, () -> x.setHeld(-1, 1, 1));
    }

    private static void put() {
        c.promise(35);
        Twoends x = yard();
        c.state("nowhere", x, () -> x.put(0, 1, 1));
        c.argument("nowhere, kind 10", x, () -> x.put(0, 10, 1));
        x.stand(0, 1);
        x.stand(1, 1);
        x.forth(0);
        c.due("put", 3, () -> x.put(0, 9, 98));
        line(x, "110 217 998 324 431");
        fresh(x, 0, 3, 1, 1);
        c.due("it holds nothing", -9, () -> x.takeHeld(0));
        c.due("it holds nothing", -9, () -> x.setHeld(0, 1, 1));
        c.due("the other is stale", 2, () -> x.where(1, 0));
        c.due("slips torn", 0, () -> x.yard(3));
        c.due("walk stays", 2, () -> x.yard(5));
        c.idle("stale", x, -9, () -> x.put(1, 1, 1));
        c.due("put of a gap", 4, () -> x.put(0, 0, 98));
        c.due("back over it", 0, () -> x.back(0));
        c.due("back", 998, () -> x.back(0));
        c.due("put after back", 3, () -> x.put(0, 8, 1));
        line(x, "110 217 801 998 0 324 431");
        c.due("forth", 998, () -> x.forth(0));
        x.stand(1, 7);
        c.due("put at the back", 8, () -> x.put(1, 7, 0));
        x.stand(1, 0);
        c.due("put at the front", 1, () -> x.put(1, 6, 0));
        line(x, "600 110 217 801 998 0 324 431 700");
        c.due("the other is stale", 2, () -> x.where(0, 0));
        c.argument("kind 10", x, () -> x.put(1, 10, 1));
        c.argument("kind -1", x, () -> x.put(1, -1, 1));
        c.argument("load 100", x, () -> x.put(1, 0, 100));
        c.argument("load -1", x, () -> x.put(1, 1, -1));
        c.index("walker 2", x, () -> x.put(2, 10, 1));
        c.index("walker -1", x, () -> x.put(-1, 1, 1));
        Twoends full = full();
        c.state("nowhere, line full", full, () -> full.put(0, 1, 1));
        full.stand(0, 20);
        c.state("line full", full, () -> full.put(0, 1, 1));
        c.argument("line full, kind 10", full, () -> full.put(0, 10, 1));
        full.rotate(1, 1);
        c.state("line full, stale", full, () -> full.put(0, 0, 1));
        Twoends y = full();
        y.cut(19);
        y.stand(0, 19);
        c.due("put of the 20th", 20, () -> y.put(0, 9, 9));
        c.due("at", 909, () -> y.at(19));
        Twoends z = new Twoends();
        z.stand(1, 0);
        c.due("put in an empty one", 1, () -> z.put(1, 2, 3));
        line(z, "203");
        c.due("the other is nowhere", 0, () -> z.where(0, 0));
    }

    private static void where() {
        c.promise(36);
        Twoends x = yard();
        for (int walker = 0; walker <= 1; walker++) {
            int w = walker;
            c.idle("nowhere", x, 0, () -> x.where(w, 0));
            for (int what = 1; what <= 4; what++) {
                int asked = what;
                c.state("nowhere", x, () -> x.where(w, asked));
            }
            c.argument("what 5", x, () -> x.where(w, 5));
            c.argument("what -1", x, () -> x.where(w, -1));
        }
        x.stand(0, 3);
        x.stand(1, 0);
        fresh(x, 0, 3, 1, 1);
        fresh(x, 1, 0, 1, 0);
        c.argument("what 5", x, () -> x.where(0, 5));
        x.cut(3);
        c.idle("stale", x, 2, () -> x.where(0, 0));
        c.idle("stale", x, 2, () -> x.where(1, 0));
        for (int what = 1; what <= 4; what++) {
            int asked = what;
            c.state("stale", x, () -> x.where(0, asked));
        }
        c.index("walker 2", x, () -> x.where(2, 5));
        c.index("walker -1", x, () -> x.where(-1, 0));
    }

    private interface Change {
        void on(Twoends x);
    }

    private static Twoends walked() {
        Twoends x = yard();
        x.stand(0, 1);
        x.forth(0);
        return x;
    }

    private static void stale(String name, Change change) {
        Twoends x = walked();
        change.on(x);
        c.due(name + " makes stale", 2, () -> x.where(0, 0));
        c.due(name + " leaves nowhere", 0, () -> x.where(1, 0));
        c.idle(name + ": forth", x, -9, () -> x.forth(0));
        c.idle(name + ": back", x, -9, () -> x.back(0));
        c.idle(name + ": takeHeld", x, -9, () -> x.takeHeld(0));
        c.idle(name + ": setHeld", x, -9, () -> x.setHeld(0, 1, 1));
        c.idle(name + ": put", x, -9, () -> x.put(0, 1, 1));
        c.due(name + ": stand", 0, () -> x.stand(0, 0));
        c.due(name + ": fresh", 1, () -> x.where(0, 0));
    }

    private static void stays(String name, Change change) {
        Twoends x = walked();
        change.on(x);
        fresh(x, 0, 2, 1, 1);
        c.due(name + " leaves what is held", 1, () -> x.takeHeld(0));
    }

    private static void order(Twoends x, int what) {
        x.order(what);
        x.work(1);
    }

    private static void whatMakesStale() {
        c.promise(31);
        stale("join", x -> x.join(1, true, 1, 1));
        stale("offer", x -> x.offer(1, false, 0, 1));
        stale("push", x -> x.push(1, 1, 1));
        stale("append", x -> x.append(1, 1, 1));
        stale("train", x -> x.train(1, 1, 1, 1));
        stale("take", x -> x.take(1, true));
        stale("poll", x -> x.poll(1, true));
        stale("pop", x -> x.pop(1));
        stale("serve", x -> x.serve(1, true));
        stale("rotate", x -> x.rotate(1, 4));
        stale("undo", x -> x.undo());
        stale("drop", x -> x.drop(1, 4, false));
        stale("dropAll", x -> x.dropAll(1, 4));
        stale("shed", x -> x.shed(1, true, 0, 1));
        stale("thin", x -> x.thin(1, true, 4));
        stale("turn", x -> x.turn(1));
        stale("clear", x -> x.clear(1));
        stale("purge", x -> x.purge(true));
        stale("insert", x -> x.insert(4, 1, 1));
        stale("cut", x -> x.cut(3));
        stale("splice", x -> x.splice(4));
        stale("shunt", x -> x.shunt(3, 1));
        stale("a move off", x -> order(x, 4));
        stale("a move on", x -> order(x, 3));

        stays("join on the siding", x -> x.join(0, true, 1, 1));
        stays("take off the siding", x -> x.take(0, true));
        stays("rotate by 0", x -> x.rotate(1, 0));
        stays("turn of the siding", x -> x.turn(0));
        stays("clear of the siding", x -> x.clear(0));
        stays("drop of none", x -> x.drop(1, 9, true));
        stays("dropAll of none", x -> x.dropAll(1, 9));
        stays("shed of none", x -> x.shed(1, true, 99, 1));
        stays("thin of none", x -> x.thin(1, true, 5));
        stays("purge of none", x -> x.purge(false));
        stays("replace", x -> x.replace(1, 1, 1));
        stays("insert refused", x -> x.insert(5, 1, 1));
        stays("cut refused", x -> x.cut(4));
        stays("splice refused", x -> x.splice(5));
        stays("shunt refused", x -> x.shunt(4, 1));
        stays("a step of the walk", x -> x.step());
        stays("pluck", x -> {
            x.step();
            x.pluck();
        });
        stays("undo on the siding", x -> {
            x.append(0, 1, 1);
            x.undo();
        });
        stays("setHeld of the other", x -> {
            x.stand(1, 0);
            x.forth(1);
            x.setHeld(1, 1, 1);
        });
    }
}
