/** Promises 20 to 22: a walk of the siding. */
public final class WalkTest {
    private static final Checks c = new Checks("WalkTest");

    public static void main(String[] args) {
        walk();
        step();
        pluck();
        whatEndsIt();
        c.end();
    }

    private static Twoends yard() {
        Twoends x = new Twoends();
        x.train(0, 1, 10, 5);
        x.train(1, 6, 20, 3);
        return x;
    }

    private static void walk() {
        c.promise(20);
        Twoends x = yard();
        c.due("walk", 5, () -> x.walk(false));
        c.due("yard(5)", 1, () -> x.yard(5));
        c.due("yard(6)", 1, () -> x.yard(6));
        c.due("slips stay", 8, () -> x.yard(3));
        c.due("step", 110, x::step);
        c.due("walk anew", 5, () -> x.walk(true));
        c.due("yard(5)", 2, () -> x.yard(5));
        c.due("it holds nothing", -9, x::pluck);
        c.due("step", 538, x::step);
        c.due("walk anew", 5, () -> x.walk(true));
        c.due("step", 538, x::step);
        Twoends none = new Twoends();
        c.due("walk of an empty one", 0, () -> none.walk(true));
        c.due("yard(5)", 2, () -> none.yard(5));
        c.due("yard(6)", 0, () -> none.yard(6));
        c.due("step", -9, none::step);
        c.due("pluck", -9, none::pluck);
        c.due("walk of an empty one", 0, () -> none.walk(false));
        c.due("yard(5)", 1, () -> none.yard(5));
        c.due("yard(6)", 0, () -> none.yard(6));
    }

    private static void step() {
        c.promise(21);
        Twoends x = yard();
        c.state("no walk", x, x::step);
        x.walk(false);
        int[] codes = {110, 217, 324, 431, 538};
        for (int k = 0; k < codes.length; k++) {
            c.due("yard(6)", 1, () -> x.yard(6));
            c.due("step", codes[k], x::step);
        }
        c.due("yard(6)", 0, () -> x.yard(6));
        c.idle("none left", x, -9, x::step);
        c.due("a refused step lets nothing go", 4, x::pluck);
        x.walk(true);
        for (int k = 3; k >= 0; k--) {
            c.due("step", codes[k], x::step);
        }
        c.idle("none left", x, -9, x::step);
        c.due("steps lay no slips", 0, () -> x.yard(3));
        c.due("pluck", 3, x::pluck);
        c.due("text", "217 324 431", () -> x.text(0, false));
    }

    private static void pluck() {
        c.promise(22);
        Twoends x = yard();
        c.state("no walk", x, x::pluck);
        x.walk(false);
        x.stand(0, 1);
        c.idle("it holds nothing", x, -9, x::pluck);
        x.step();
        x.step();
        c.due("pluck", 4, x::pluck);
        c.due("slips torn", 0, () -> x.yard(3));
        c.due("walkers stay fresh", 1, () -> x.where(0, 0));
        c.idle("it holds nothing", x, -9, x::pluck);
        c.due("text", "110 324 431 538", () -> x.text(0, false));
        c.due("step", 324, x::step);
        c.due("pluck", 3, x::pluck);
        c.due("step", 431, x::step);
        c.due("step", 538, x::step);
        c.due("pluck", 2, x::pluck);
        c.idle("none left", x, -9, x::step);
        c.idle("it holds nothing", x, -9, x::pluck);
        c.due("text", "110 431", () -> x.text(0, false));
        x.walk(true);
        c.due("step", 431, x::step);
        c.due("pluck", 1, x::pluck);
        c.due("yard(6)", 1, () -> x.yard(6));
        c.due("step", 110, x::step);
        c.due("pluck", 0, x::pluck);
        c.due("yard(5)", 2, () -> x.yard(5));
        c.idle("none left", x, -9, x::step);
        Twoends y = yard();
        y.walk(true);
        y.step();
        y.step();
        c.due("pluck", 4, y::pluck);
        c.due("step", 324, y::step);
        c.due("step", 217, y::step);
        c.due("pluck", 3, y::pluck);
        c.due("text", "110 324 538", () -> y.text(0, false));
        c.due("step", 110, y::step);
    }

    private interface Change {
        void on(Twoends x);
    }

    private static void ends(String name, Change change) {
        for (int way = 0; way <= 1; way++) {
            Twoends x = yard();
            x.walk(way == 1);
            x.step();
            change.on(x);
            c.due(name + " ends the walk", 0, () -> x.yard(5));
            c.due(name + ": no piece left", 0, () -> x.yard(6));
            c.state(name + ": no walk", x, x::step);
            c.state(name + ": no walk", x, x::pluck);
        }
    }

    private static void stays(String name, Change change) {
        Twoends x = yard();
        x.append(1, 0, 0);
        x.walk(false);
        x.step();
        change.on(x);
        c.due(name + " leaves the walk", 1, () -> x.yard(5));
        c.due(name + " leaves the walk", 217, x::step);
        c.due(name + " leaves the walk", 4, x::pluck);
    }

    private static void whatEndsIt() {
        c.promise(21);
        ends("join", x -> x.join(0, true, 1, 1));
        ends("offer", x -> x.offer(0, false, 1, 1));
        ends("push", x -> x.push(0, 1, 1));
        ends("append", x -> x.append(0, 1, 1));
        ends("train", x -> x.train(0, 1, 1, 1));
        ends("take", x -> x.take(0, false));
        ends("poll", x -> x.poll(0, true));
        ends("pop", x -> x.pop(0));
        ends("serve", x -> x.serve(0, true));
        ends("rotate", x -> x.rotate(0, -1));
        ends("drop", x -> x.drop(0, 3, false));
        ends("dropAll", x -> x.dropAll(0, 3));
        ends("shed", x -> x.shed(0, false, 20, 1));
        ends("thin", x -> x.thin(0, true, 2));
        ends("turn", x -> x.turn(0));
        ends("clear", x -> x.clear(0));
        ends("splice", x -> x.splice(0));
        ends("shunt", x -> x.shunt(1, 1));
        ends("a move off", x -> {
            x.order(2);
            x.work(1);
        });
        ends("a move on", x -> {
            x.order(5);
            x.work(1);
        });
        Twoends u = yard();
        u.clear(1);
        u.append(0, 7, 7);
        u.walk(false);
        u.undo();
        c.due("undo ends the walk", 0, () -> u.yard(5));

        stays("a gap refused", x -> x.join(0, true, 0, 0));
        stays("join on the line", x -> x.join(1, true, 3, 0));
        stays("take off the line", x -> x.take(1, true));
        stays("undo on the line", x -> x.undo());
        stays("rotate by 0", x -> x.rotate(0, 0));
        stays("rotate of the line", x -> x.rotate(1, 2));
        stays("drop of none", x -> x.drop(0, 9, false));
        stays("dropAll of none", x -> x.dropAll(0, 9));
        stays("shed of none", x -> x.shed(0, false, 99, 1));
        stays("turn of the line", x -> x.turn(1));
        stays("clear of the line", x -> x.clear(1));
        stays("purge", x -> x.purge(true));
        stays("insert", x -> x.insert(0, 1, 1));
        stays("cut", x -> x.cut(0));
        stays("replace", x -> x.replace(0, 1, 1));
        stays("splice refused", x -> x.splice(9));
        stays("shunt of a gap", x -> x.shunt(3, 4));
        stays("shunt refused", x -> x.shunt(4, 4));
        stays("a move that cannot be done", x -> {
            x.order(6);
            x.work(1);
        });
        stays("put", x -> {
            x.stand(0, 1);
            x.put(0, 1, 1);
        });
    }
}
