/** Promises 37 to 39: orders. */
public final class OrdersTest {
    private static final Checks c = new Checks("OrdersTest");

    public static void main(String[] args) {
        order();
        work();
        cannotBeDone();
        cancel();
        c.end();
    }

    private static Twoends yard() {
        Twoends x = new Twoends();
        x.train(0, 1, 10, 4);
        x.train(1, 5, 50, 4);
        x.cut(0);
        x.insert(0, 5, 50);
        return x;
    }

    private static void texts(Twoends x, String siding, String line) {
        c.due("text(0, false)", siding, () -> x.text(0, false));
        c.due("text(1, false)", line, () -> x.text(1, false));
    }

    private static void orders(Twoends x, int many, int first, int last) {
        c.due("yard(0)", many, () -> x.yard(0));
        c.due("yard(1)", first, () -> x.yard(1));
        c.due("yard(2)", last, () -> x.yard(2));
    }

    private static void order() {
        c.promise(37);
        Twoends x = yard();
        for (int k = 1; k <= 10; k++) {
            int many = k;
            c.due("order", many, () -> x.order((many + 2) % 8));
            orders(x, many, 3, (many + 2) % 8);
        }
        c.state("an 11th", x, () -> x.order(0));
        c.argument("order 8, full", x, () -> x.order(8));
        c.argument("order -1, full", x, () -> x.order(-1));
        x.cancel(3, false);
        c.due("order", 10, () -> x.order(7));
        Twoends y = yard();
        c.argument("order 8", y, () -> y.order(8));
        c.argument("order -1", y, () -> y.order(-1));
    }

    private static void oneMove(int what, String siding, String line, int top, int under) {
        Twoends x = yard();
        x.order(what);
        c.due("work of " + what, 1, () -> x.work(1));
        texts(x, siding, line);
        c.due("two slips", 2, () -> x.yard(3));
        c.due("undo", top, x::undo);
        c.due("undo", under, x::undo);
        texts(x, "110 217 324 431", "550 657 764 871");
        orders(x, 0, -1, -1);
    }

    private static void work() {
        c.promise(38);
        oneMove(0, "217 324 431", "110 550 657 764 871", 5110, 110);
        oneMove(1, "217 324 431", "550 657 764 871 110", 7110, 110);
        oneMove(2, "110 217 324", "431 550 657 764 871", 5431, 2431);
        oneMove(3, "110 217 324", "550 657 764 871 431", 7431, 2431);
        oneMove(4, "550 110 217 324 431", "657 764 871", 1550, 4550);
        oneMove(5, "110 217 324 431 550", "657 764 871", 3550, 4550);
        oneMove(6, "871 110 217 324 431", "550 657 764", 1871, 6871);
        oneMove(7, "110 217 324 431 871", "550 657 764", 3871, 6871);
        Twoends x = yard();
        x.walk(false);
        c.idle("no orders", x, 0, () -> x.work(10));
        x.order(0);
        x.order(7);
        x.order(2);
        c.due("work", 2, () -> x.work(2));
        orders(x, 1, 2, 2);
        texts(x, "217 324 431 871", "110 550 657 764");
        c.due("work of more than there are", 1, () -> x.work(10));
        orders(x, 0, -1, -1);
        texts(x, "217 324 431", "871 110 550 657 764");
        c.due("walk over", 0, () -> x.yard(5));
        c.argument("many 0", x, () -> x.work(0));
        c.argument("many 11", x, () -> x.work(11));
        c.argument("many -1", x, () -> x.work(-1));
    }

    private static void cannotBeDone() {
        Twoends empty = new Twoends();
        empty.order(0);
        empty.order(5);
        empty.append(1, 0, 0);
        empty.walk(true);
        empty.stand(0, 0);
        c.due("siding empty, then a gap", 0, () -> empty.work(2));
        orders(empty, 2, 0, 5);
        c.due("one alone comes as the last one", 0, () -> empty.work(1));
        orders(empty, 2, 5, 0);
        c.due("walk stays", 2, () -> empty.yard(5));
        c.due("walker stays", 1, () -> empty.where(0, 0));
        c.due("slips stay", 1, () -> empty.yard(3));
        c.due("ten times round", 0, () -> empty.work(9));
        orders(empty, 2, 0, 5);
        texts(empty, "", "0");

        Twoends gaps = yard();
        gaps.append(1, 0, 0);
        gaps.order(6);
        gaps.order(4);
        c.due("a gap at the back alone", 1, () -> gaps.work(3));
        orders(gaps, 1, 6, 6);
        gaps.take(1, true);
        c.due("it can be done later", 1, () -> gaps.work(1));
        texts(gaps, "871 550 110 217 324 431", "657 764");

        Twoends again = new Twoends();
        again.append(1, 4, 4);
        again.order(0);
        again.order(4);
        c.due("the first, come as the last one, is done", 2, () -> again.work(3));
        texts(again, "", "404");
        c.due("four slips and that of append", 5, () -> again.yard(3));

        Twoends full = new Twoends();
        full.train(1, 1, 0, 12);
        full.train(1, 1, 0, 8);
        full.append(0, 9, 9);
        for (int what = 0; what <= 3; what++) {
            full.order(what);
        }
        c.due("the line is full", 0, () -> full.work(4));
        orders(full, 4, 0, 3);
        full.order(7);
        c.due("till one is off", 2, () -> full.work(6));
        texts(full, "849", full.text(1, false));
        c.due("at", 909, () -> full.at(0));
        orders(full, 3, 1, 3);
        c.due("isSound", true, full::isSound);
        Twoends siding = new Twoends();
        siding.train(0, 1, 0, 12);
        siding.train(0, 1, 0, 8);
        siding.append(1, 9, 9);
        siding.order(5);
        c.due("the siding is full", 0, () -> siding.work(1));
        orders(siding, 1, 5, 5);
    }

    private static void cancel() {
        c.promise(39);
        Twoends x = yard();
        int[] row = {3, 1, 3, 2, 3, 1};
        for (int what : row) {
            x.order(what);
        }
        c.idle("none of that number", x, false, () -> x.cancel(0, true));
        c.due("cancel the first", true, () -> x.cancel(3, false));
        orders(x, 5, 1, 1);
        c.due("cancel the last", true, () -> x.cancel(1, true));
        orders(x, 4, 1, 3);
        c.due("cancel the last", true, () -> x.cancel(3, true));
        orders(x, 3, 1, 2);
        c.due("slips stay", 0, () -> x.yard(3));
        c.due("cancel", true, () -> x.cancel(1, false));
        orders(x, 2, 3, 2);
        c.due("cancel", true, () -> x.cancel(3, false));
        c.due("cancel", true, () -> x.cancel(2, true));
        orders(x, 0, -1, -1);
        c.idle("no orders", x, false, () -> x.cancel(2, false));
        c.argument("order 8", x, () -> x.cancel(8, false));
        c.argument("order -1", x, () -> x.cancel(-1, true));
    }
}
