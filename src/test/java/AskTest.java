/** Promises 40 to 51: what is asked. */
public final class AskTest {
    private static final Checks c = new Checks("AskTest");

    public static void main(String[] args) {
        ask();
        ofTrack();
        has();
        compare();
        text();
        nested();
        heaviest();
        ahead();
        yard();
        knock();
        isSound();
        digest();
        c.end();
    }

    /** SIDING 110 217 324, LINE gap 205 gap. */
    private static Twoends small() {
        Twoends x = new Twoends();
        x.train(0, 1, 10, 3);
        x.append(1, 0, 0);
        x.append(1, 2, 5);
        x.append(1, 0, 0);
        x.walk(true);
        x.stand(1, 1);
        return x;
    }

    private static Twoends of(int track, int... codes) {
        Twoends x = new Twoends();
        for (int code : codes) {
            x.append(track, code / 100, code % 100);
        }
        return x;
    }

    private static void ask() {
        c.promise(40);
        Twoends x = small();
        x.append(1, 3, 99);
        int[] siding = {110, 324, 110, 324, 110, 110};
        int[] line = {0, 399, 0, 399, 0, 0};
        int[] empty = {-9, -9, 0, 0, -9, 0};
        Twoends none = new Twoends();
        for (int way = 0; way <= 5; way++) {
            int w = way;
            c.idle("ask(0, " + way + ")", x, siding[w], () -> x.ask(0, w));
            c.idle("ask(1, " + way + ")", x, line[w], () -> x.ask(1, w));
            c.idle("empty: ask(0, " + way + ")", none, empty[w], () -> none.ask(0, w));
            c.idle("empty: ask(1, " + way + ")", none, empty[w], () -> none.ask(1, w));
        }
        c.argument("way 6", x, () -> x.ask(0, 6));
        c.argument("way -1", x, () -> x.ask(1, -1));
        c.index("track 2", x, () -> x.ask(2, 6));
        c.index("track -1", x, () -> x.ask(-1, 0));
    }

    private static void ofTrack() {
        c.promise(41);
        Twoends x = small();
        int[] siding = {3, 0, 51, 31 * (31 * (31 + 1) + 2) + 3};
        int[] line = {3, 0, 5, 31 * (31 * 31 + 2)};
        int[] empty = {0, 1, 0, 1};
        Twoends none = new Twoends();
        for (int what = 0; what <= 3; what++) {
            int w = what;
            c.idle("ofTrack(0, " + what + ")", x, siding[w], () -> x.ofTrack(0, w));
            c.idle("ofTrack(1, " + what + ")", x, line[w], () -> x.ofTrack(1, w));
            c.idle("empty", none, empty[w], () -> none.ofTrack(0, w));
            c.idle("empty", none, empty[w], () -> none.ofTrack(1, w));
        }
        Twoends wraps = of(1, 999, 999, 999, 999, 999, 999, 999);
        long seal = 1;
        for (int k = 0; k < 7; k++) {
            seal = 31 * seal + 9;
        }
        int wrapped = (int) seal;
        c.same("it wraps around", true, wrapped != seal);
        c.due("the seal wraps around", wrapped, () -> wraps.ofTrack(1, 3));
        c.due("the sum", 693, () -> wraps.ofTrack(1, 2));
        c.argument("what 4", x, () -> x.ofTrack(0, 4));
        c.argument("what -1", x, () -> x.ofTrack(1, -1));
        c.index("track 2", x, () -> x.ofTrack(2, 4));
        c.index("track -1", x, () -> x.ofTrack(-1, 0));
    }

    private static void has() {
        c.promise(42);
        Twoends x = small();
        c.idle("has", x, true, () -> x.has(0, 1));
        c.idle("has", x, true, () -> x.has(0, 3));
        c.idle("has not", x, false, () -> x.has(0, 4));
        c.idle("has", x, true, () -> x.has(1, 2));
        c.idle("has not", x, false, () -> x.has(1, 1));
        c.idle("has a gap", x, true, () -> x.has(1, 0));
        Twoends y = of(1, 905);
        c.idle("has no gap", y, false, () -> y.has(1, 0));
        c.idle("has", y, true, () -> y.has(1, 9));
        c.idle("empty", y, false, () -> y.has(0, 9));
        c.argument("gap of the siding", x, () -> x.has(0, 0));
        c.argument("kind 10", x, () -> x.has(0, 10));
        c.argument("kind 10", x, () -> x.has(1, 10));
        c.argument("kind -1", x, () -> x.has(1, -1));
        c.index("track 2", x, () -> x.has(2, 0));
        c.index("track -1", x, () -> x.has(-1, 10));
    }

    private static void compared(boolean isWhole, boolean want, int[] siding, int[] line) {
        Twoends x = of(0, siding);
        for (int code : line) {
            x.append(1, code / 100, code % 100);
        }
        c.idle("compare(" + isWhole + ") of " + x.text(0, false) + " and " + x.text(1, false),
                x, want, () -> x.compare(isWhole));
    }

    private static void compare() {
        c.promise(43);
        int[] none = {};
        compared(true, true, none, none);
        compared(true, false, none, new int[] {100});
        compared(true, false, new int[] {100}, none);
        compared(true, true, new int[] {100, 299}, new int[] {150, 200});
        compared(true, false, new int[] {100, 299}, new int[] {200, 150});
        compared(true, false, new int[] {100, 200}, new int[] {300, 200});
        compared(true, false, new int[] {100, 200}, new int[] {100, 300});
        compared(true, false, new int[] {100, 200}, new int[] {100, 200, 300});
        compared(true, false, new int[] {100, 200}, new int[] {100, 0});
        compared(false, true, none, none);
        compared(false, true, none, new int[] {100});
        compared(false, false, new int[] {100}, none);
        compared(false, true, new int[] {299, 100, 250}, new int[] {150, 0, 200});
        compared(false, false, new int[] {299, 100, 350}, new int[] {150, 0, 200});
        compared(false, false, new int[] {300, 100}, new int[] {150, 0, 200});
    }

    private static void text() {
        c.promise(44);
        Twoends x = small();
        c.idle("text", x, "110 217 324", () -> x.text(0, false));
        c.idle("text", x, "324 217 110", () -> x.text(0, true));
        c.idle("text", x, "0 205 0", () -> x.text(1, false));
        Twoends y = of(1, 0, 900, 999);
        c.idle("text", y, "999 900 0", () -> y.text(1, true));
        c.idle("text of an empty one", y, "", () -> y.text(0, true));
        c.idle("text of an empty one", y, "", () -> y.text(0, false));
        Twoends one = of(1, 0);
        c.idle("text of a single one", one, "0", () -> one.text(1, true));
        c.index("track 2", x, () -> x.text(2, true));
        c.index("track -1", x, () -> x.text(-1, false));
    }

    private static void nestedOf(int want, int... kinds) {
        Twoends x = new Twoends();
        for (int kind : kinds) {
            x.append(1, kind, 42);
        }
        c.idle("nested of " + x.text(1, false), x, want, () -> x.nested(1));
    }

    private static void nested() {
        c.promise(45);
        nestedOf(0);
        nestedOf(0, 9, 0, 9);
        nestedOf(1, 1, 2);
        nestedOf(1, 1, 2, 3, 4, 5, 6, 7, 8);
        nestedOf(2, 1, 9, 3, 0, 4, 2, 0);
        nestedOf(3, 1, 1, 1, 2, 2, 2, 5, 6);
        nestedOf(4, 1, 3, 5, 7, 8, 6, 4, 2);
        nestedOf(10, 7, 7, 7, 7, 7, 7, 7, 7, 7, 7, 8, 8, 8, 8, 8, 8, 8, 8, 8, 8);
        nestedOf(-1, 1, 3, 2, 4);
        nestedOf(-1, 1);
        nestedOf(-1, 2);
        nestedOf(-1, 2, 1);
        nestedOf(-1, 1, 4);
        nestedOf(-1, 3, 2);
        nestedOf(-1, 1, 2, 2);
        nestedOf(-1, 1, 1, 2);
        nestedOf(-1, 1, 1, 1, 1, 1, 1, 1, 1, 1, 1, 1, 1, 1, 1, 1, 1, 1, 1, 1, 1);
        Twoends x = of(0, 111, 322, 433, 244);
        c.idle("nested of the siding", x, 2, () -> x.nested(0));
        c.idle("nested of an empty one", x, 0, () -> x.nested(1));
        Twoends wrong = of(0, 111, 411);
        wrong.nested(0);
        c.idle("what was open before is forgotten", wrong, 0, () -> wrong.nested(1));
        c.index("track 2", x, () -> x.nested(2));
        c.index("track -1", x, () -> x.nested(-1));
    }

    private static void heaviest() {
        c.promise(46);
        Twoends x = of(1, 105, 290, 0, 307, 499);
        c.idle("heaviest", x, 90, () -> x.heaviest(1, 2, 0));
        c.idle("heaviest", x, 90, () -> x.heaviest(1, 4, 0));
        c.idle("heaviest", x, 99, () -> x.heaviest(1, 5, 0));
        c.idle("heaviest", x, 5, () -> x.heaviest(1, 1, 0));
        c.idle("heaviest of a gap", x, 0, () -> x.heaviest(1, 1, 2));
        c.idle("heaviest", x, 7, () -> x.heaviest(1, 2, 2));
        c.idle("heaviest", x, 99, () -> x.heaviest(1, 1, 4));
        c.idle("too far", x, -1, () -> x.heaviest(1, 6, 0));
        c.idle("too far", x, -1, () -> x.heaviest(1, 2, 4));
        c.idle("too far", x, -1, () -> x.heaviest(1, 1, 5));
        c.idle("too far", x, -1, () -> x.heaviest(1, 20, 19));
        c.idle("empty", x, -1, () -> x.heaviest(0, 1, 0));
        c.argument("window 0", x, () -> x.heaviest(1, 0, 0));
        c.argument("window 21", x, () -> x.heaviest(1, 21, 0));
        c.argument("window -1", x, () -> x.heaviest(1, -1, 19));
        c.argument("window of the most", x, () -> x.heaviest(1, Integer.MAX_VALUE, 19));
        c.index("place 20", x, () -> x.heaviest(1, 0, 20));
        c.index("place -1", x, () -> x.heaviest(1, 1, -1));
        c.index("track 2", x, () -> x.heaviest(2, 21, 0));
        c.index("track -1", x, () -> x.heaviest(-1, 1, 0));
        Twoends full = new Twoends();
        full.train(0, 1, 1, 12);
        full.train(0, 1, 2, 8);
        c.idle("all of it", full, 78, () -> full.heaviest(0, 20, 0));
        c.idle("the last one", full, 51, () -> full.heaviest(0, 1, 19));
        c.idle("one too many", full, -1, () -> full.heaviest(0, 2, 19));
    }

    private static void ahead() {
        c.promise(47);
        Twoends x = of(1, 150, 220, 320, 0, 930, 150);
        int[] wants = {-1, 0, 0, 2, 0, -1};
        for (int place = 0; place < wants.length; place++) {
            int p = place;
            c.idle("ahead(1, " + place + ")", x, wants[p], () -> x.ahead(1, p));
        }
        c.idle("no such place now", x, -9, () -> x.ahead(1, 6));
        c.idle("no such place now", x, -9, () -> x.ahead(1, 19));
        c.idle("empty", x, -9, () -> x.ahead(0, 0));
        c.index("place 20", x, () -> x.ahead(1, 20));
        c.index("place -1", x, () -> x.ahead(1, -1));
        c.index("track 2", x, () -> x.ahead(2, 0));
        c.index("track -1", x, () -> x.ahead(-1, 0));
        Twoends y = of(0, 110, 109, 108);
        c.idle("ahead of the siding", y, 1, () -> y.ahead(0, 2));
    }

    private static void yard() {
        c.promise(48);
        Twoends x = new Twoends();
        int[] fresh = {0, -1, -1, 0, -1, 0, 0, 0};
        for (int what = 0; what < fresh.length; what++) {
            int w = what;
            c.idle("yard(" + what + ")", x, fresh[w], () -> x.yard(w));
        }
        x.order(5);
        x.order(2);
        x.order(0);
        x.append(1, 0, 0);
        x.append(0, 3, 4);
        x.walk(true);
        x.knock();
        x.knock();
        int[] later = {3, 5, 0, 2, 3304, 2, 1, 2};
        for (int what = 0; what < later.length; what++) {
            int w = what;
            c.idle("yard(" + what + ")", x, later[w], () -> x.yard(w));
        }
        x.walk(false);
        c.idle("yard(5)", x, 1, () -> x.yard(5));
        c.idle("yard(6)", x, 1, () -> x.yard(6));
        x.step();
        c.idle("yard(6)", x, 0, () -> x.yard(6));
        x.pop(1);
        c.idle("yard(4)", x, 4000, () -> x.yard(4));
        x.pop(0);
        c.idle("yard(4)", x, 304, () -> x.yard(4));
        c.argument("what 8", x, () -> x.yard(8));
        c.argument("what -1", x, () -> x.yard(-1));
    }

    private static void knock() {
        c.promise(49);
        Twoends x = small();
        for (int k = 1; k <= 200; k++) {
            c.due("knock", k, x::knock);
        }
        c.due("yard(7)", 200, () -> x.yard(7));
        c.due("slips stay", 6, () -> x.yard(3));
        c.due("walk stays", 2, () -> x.yard(5));
        c.due("walker stays", 1, () -> x.where(1, 0));
        c.due("knock of another yard", 1, () -> new Twoends().knock());
    }

    private static void isSound() {
        c.promise(50);
        Twoends x = small();
        c.idle("isSound", x, true, x::isSound);
        Twoends y = new Twoends();
        c.idle("isSound", y, true, y::isSound);
        y.train(1, 1, 1, 12);
        y.train(1, 1, 1, 8);
        y.train(0, 1, 1, 12);
        y.train(0, 1, 1, 8);
        c.idle("isSound of full ones", y, true, y::isSound);
        y.rotate(0, 6);
        c.idle("isSound with 12 slips", y, true, y::isSound);
        y.take(1, true);
        y.order(0);
        y.work(1);
        c.idle("isSound after a move", y, true, y::isSound);
        for (int what = 0; what < 10; what++) {
            y.order(what % 8);
        }
        c.idle("isSound with 10 orders", y, true, y::isSound);
        y.stand(0, 20);
        c.idle("isSound with a walker at the end", y, true, y::isSound);
        y.pop(1);
        c.idle("isSound with a stale walker beyond the end", y, true, y::isSound);
        y.clear(1);
        c.idle("isSound", y, true, y::isSound);
    }

    private static long checksum(long... values) {
        long d = 8317;
        for (long v : values) {
            d = d * 31 + v;
        }
        return d;
    }

    private static void digest() {
        c.promise(51);
        Twoends none = new Twoends();
        long empty = checksum(
                0, 1, 0, 1, -9, -9, 0, 0, -9, 0, 0, 0,
                0, 1, 0, 1, -9, -9, 0, 0, -9, 0, 0, 0,
                -1, -1, -1, -1, -1, -1, -1, -1, -1, -1, -1, -1, -1, -1, -1, -1, -1, -1, -1, -1,
                0, 0,
                0, -1, -1, 0, -1, 0, 0, 0,
                1, 1, 1);
        c.idle("digest of a new one", none, empty, none::digest);

        Twoends x = small();
        x.order(6);
        x.order(1);
        x.knock();
        long want = checksum(
                3, 0, 51, 30817, 110, 324, 110, 324, 110, 110, 110, 217, 324, 11, -1,
                3, 0, 5, 29853, 0, 0, 0, 0, 0, 0, 0, 205, 0, 7, -1,
                0, 2, -1, -1, 1, 1, -1, -1, -1, -1, -1, -1, -1, -1, -1, -1, -1, -1, -1, -1,
                0, 1, 1, 0, 1, 1,
                2, 6, 1, 6, 7000, 2, 1, 1,
                7000, 7205, 7000, 3324, 3217, 3110,
                6, 1,
                0, 0, 1);
        c.idle("digest", x, want, x::digest);
        x.walk(false);
        c.same("the walk counts", true, want != x.digest());

        Twoends like = of(0, 101);
        like.append(1, 1, 2);
        like.append(1, 9, 0);
        like.stand(0, 0);
        c.idle("digest of tracks that are like in one way alone", like, checksum(
                1, 0, 1, 32, 101, 101, 101, 101, 101, 101, 101, 3, -1,
                2, 0, 2, 1001, 102, 900, 102, 900, 102, 102, 102, 900, 7, -1,
                -1, -1, 0, 0, -1, -1, -1, -1, -1, -1, -1, -1, -1, -1, -1, -1, -1, -1, 1, 1,
                1, 0, -1, 1, 0, 0,
                0, -1, -1, 3, 7900, 0, 0, 0,
                7900, 7102, 3101,
                1, 0, 1), like::digest);
    }
}
