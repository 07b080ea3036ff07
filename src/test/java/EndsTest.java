/** Promises 1 to 12: a new object, pieces put and taken off at the ends, undo. */
public final class EndsTest {
    private static final Checks c = new Checks("EndsTest");

    public static void main(String[] args) {
        newObject();
        join();
        offer();
        push();
        append();
        train();
        take();
        poll();
        pop();
        serve();
        rotate();
        undo();
        undoEverySort();
        c.end();
    }

    private static Twoends full(int track) {
        Twoends x = new Twoends();
        x.train(track, 1, 0, 12);
        x.train(track, 2, 5, 8);
        return x;
    }

    private static void texts(Twoends x, String siding, String line) {
        c.due("text(0, false)", siding, () -> x.text(0, false));
        c.due("text(1, false)", line, () -> x.text(1, false));
    }

    private static void slips(Twoends x, int many, int top) {
        c.due("yard(3)", many, () -> x.yard(3));
        c.due("yard(4)", top, () -> x.yard(4));
    }

    private static void newObject() {
        c.promise(1);
        Twoends x = new Twoends();
        texts(x, "", "");
        slips(x, 0, -1);
        for (int track = 0; track <= 1; track++) {
            int t = track;
            c.due("ofTrack 0", 0, () -> x.ofTrack(t, 0));
            c.due("ofTrack 1", 1, () -> x.ofTrack(t, 1));
            c.due("ofTrack 2", 0, () -> x.ofTrack(t, 2));
            c.due("ofTrack 3", 1, () -> x.ofTrack(t, 3));
            c.due("where 0", 0, () -> x.where(t, 0));
        }
        int[] yard = {0, -1, -1, 0, -1, 0, 0, 0};
        for (int what = 0; what < yard.length; what++) {
            int w = what;
            c.due("yard(" + w + ")", yard[w], () -> x.yard(w));
        }
        Twoends other = new Twoends();
        other.train(0, 1, 1, 3);
        c.due("two objects are two yards", "", () -> x.text(0, false));
    }

    private static void wrongPieces(Twoends x, String name, Put put) {
        c.index(name + " of track -1", x, () -> put.at(-1, 1, 1));
        c.index(name + " of track 2", x, () -> put.at(2, 1, 1));
        c.index(name + " of track 2, kind 10", x, () -> put.at(2, 10, 1));
        for (int track = 0; track <= 1; track++) {
            int t = track;
            c.argument(name + " of kind -1", x, () -> put.at(t, -1, 1));
            c.argument(name + " of kind 10", x, () -> put.at(t, 10, 1));
            c.argument(name + " of load -1", x, () -> put.at(t, 1, -1));
            c.argument(name + " of load 100", x, () -> put.at(t, 1, 100));
            c.argument(name + " of a gap of load 100", x, () -> put.at(t, 0, 100));
            c.argument(name + " of a gap of load -1", x, () -> put.at(t, 0, -1));
        }
    }

    private interface Put {
        Object at(int track, int kind, int load);
    }

    private static void fullTracks(String name, PutOn put) {
        Twoends siding = full(0);
        Twoends line = full(1);
        c.state(name + " on a full siding", siding, () -> put.on(siding, 0, 1, 1));
        c.state(name + " of a gap on a full siding", siding, () -> put.on(siding, 0, 0, 0));
        c.state(name + " on a full line", line, () -> put.on(line, 1, 1, 1));
        c.state(name + " of a gap on a full line", line, () -> put.on(line, 1, 0, 0));
        c.argument(name + " of kind 10 on a full line", line, () -> put.on(line, 1, 10, 0));
        c.index(name + " of load 100 on no track", line, () -> put.on(line, 3, 1, 100));
    }

    private interface PutOn {
        Object on(Twoends x, int track, int kind, int load);
    }

    private static void join() {
        c.promise(2);
        Twoends x = new Twoends();
        c.due("join", 1, () -> x.join(0, true, 3, 40));
        c.due("join", 2, () -> x.join(0, false, 1, 0));
        c.due("join", 3, () -> x.join(0, true, 9, 99));
        slips(x, 3, 3999);
        c.due("join", 1, () -> x.join(1, false, 0, 77));
        slips(x, 4, 5000);
        c.due("join", 2, () -> x.join(1, false, 2, 5));
        slips(x, 5, 5205);
        c.due("join", 3, () -> x.join(1, true, 0, 0));
        slips(x, 6, 7000);
        texts(x, "100 340 999", "205 0 0");
        c.idle("a gap on the siding", x, -9, () -> x.join(0, true, 0, 0));
        c.idle("a gap on the siding", x, -9, () -> x.join(0, false, 0, 99));
        wrongPieces(x, "join", (t, k, l) -> x.join(t, true, k, l));
        fullTracks("join", (y, t, k, l) -> y.join(t, false, k, l));
        Twoends y = new Twoends();
        for (int size = 1; size <= 20; size++) {
            c.due("join", size, () -> y.join(1, true, 1, 1));
        }
        c.state("join of a 21st", y, () -> y.join(1, true, 1, 1));
    }

    private static void offer() {
        c.promise(3);
        Twoends x = new Twoends();
        c.due("offer", true, () -> x.offer(0, true, 3, 40));
        c.due("offer", true, () -> x.offer(0, false, 1, 0));
        slips(x, 2, 1100);
        c.due("offer", true, () -> x.offer(1, true, 0, 99));
        c.due("offer", true, () -> x.offer(1, true, 9, 99));
        slips(x, 4, 7999);
        texts(x, "100 340", "0 999");
        c.idle("a gap on the siding", x, false, () -> x.offer(0, true, 0, 1));
        wrongPieces(x, "offer", (t, k, l) -> x.offer(t, false, k, l));
        fullTracks("offer", (y, t, k, l) -> y.offer(t, true, k, l));
    }

    private static void push() {
        c.promise(4);
        Twoends x = new Twoends();
        c.due("push on an empty one", 0, () -> x.push(0, 3, 40));
        c.due("push", 340, () -> x.push(0, 4, 41));
        slips(x, 2, 1441);
        c.due("push", 0, () -> x.push(1, 0, 41));
        c.due("push on a gap", 0, () -> x.push(1, 5, 6));
        c.due("push", 506, () -> x.push(1, 0, 0));
        slips(x, 5, 5000);
        texts(x, "441 340", "0 506 0");
        c.idle("a gap on the siding", x, -9, () -> x.push(0, 0, 0));
        wrongPieces(x, "push", (t, k, l) -> x.push(t, k, l));
        fullTracks("push", (y, t, k, l) -> y.push(t, k, l));
    }

    private static void append() {
        c.promise(5);
        Twoends x = new Twoends();
        c.due("append", 1, () -> x.append(0, 3, 40));
        c.due("append", 2, () -> x.append(0, 4, 41));
        slips(x, 2, 3441);
        c.due("append", 1, () -> x.append(1, 0, 41));
        c.due("append", 2, () -> x.append(1, 5, 6));
        slips(x, 4, 7506);
        texts(x, "340 441", "0 506");
        c.idle("a gap on the siding", x, -9, () -> x.append(0, 0, 0));
        wrongPieces(x, "append", (t, k, l) -> x.append(t, k, l));
        fullTracks("append", (y, t, k, l) -> y.append(t, k, l));
    }

    private static void train() {
        c.promise(6);
        Twoends x = new Twoends();
        c.due("train", 1, () -> x.train(0, 9, 99, 1));
        c.due("train", 4, () -> x.train(0, 8, 90, 3));
        slips(x, 4, 3104);
        texts(x, "999 890 997 104", "");
        c.due("train", 12, () -> x.train(1, 1, 0, 12));
        slips(x, 12, 7377);
        texts(x, "999 890 997 104", "100 207 314 421 528 635 742 849 956 163 270 377");
        c.state("train of 21", x, () -> x.train(1, 1, 0, 9));
        c.due("train of 20", 20, () -> x.train(1, 1, 0, 8));
        c.state("train of 21", x, () -> x.train(1, 1, 0, 1));
        c.argument("many before the room", x, () -> x.train(1, 1, 0, 13));
        Twoends y = new Twoends();
        wrongPieces(y, "train", (t, k, l) -> y.train(t, k, l, 1));
        c.argument("train of gaps", y, () -> y.train(1, 0, 0, 1));
        c.argument("train of none", y, () -> y.train(0, 1, 0, 0));
        c.argument("train of -1", y, () -> y.train(0, 1, 0, -1));
        c.argument("train of 13", y, () -> y.train(0, 1, 0, 13));
        c.index("the track first", y, () -> y.train(-1, 0, 100, 13));
    }

    private static Twoends mixed() {
        Twoends x = new Twoends();
        x.train(0, 1, 10, 4);
        x.append(1, 0, 0);
        x.append(1, 6, 1);
        x.append(1, 7, 2);
        x.append(1, 0, 0);
        return x;
    }

    private static void take() {
        c.promise(7);
        Twoends x = mixed();
        c.due("take", 110, () -> x.take(0, false));
        slips(x, 9, 110);
        c.due("take", 431, () -> x.take(0, true));
        slips(x, 10, 2431);
        c.due("take of a gap", 0, () -> x.take(1, false));
        slips(x, 11, 4000);
        c.due("take of a gap", 0, () -> x.take(1, true));
        slips(x, 12, 6000);
        c.due("take", 702, () -> x.take(1, true));
        slips(x, 12, 6702);
        texts(x, "217 324", "601");
        c.due("take", 601, () -> x.take(1, true));
        c.idle("take of an empty one", x, -9, () -> x.take(1, true));
        c.idle("take of an empty one", x, -9, () -> x.take(1, false));
        c.index("take of no track", x, () -> x.take(2, false));
        c.index("take of no track", x, () -> x.take(-1, true));
    }

    private static void poll() {
        c.promise(8);
        Twoends x = mixed();
        c.due("poll", 110, () -> x.poll(0, false));
        c.due("poll", 431, () -> x.poll(0, true));
        slips(x, 10, 2431);
        c.due("poll of a gap", 0, () -> x.poll(1, false));
        c.due("poll of a gap", 0, () -> x.poll(1, true));
        slips(x, 12, 6000);
        c.due("poll", 601, () -> x.poll(1, false));
        c.due("poll", 702, () -> x.poll(1, false));
        texts(x, "217 324", "");
        c.idle("poll of an empty one", x, 0, () -> x.poll(1, true));
        c.idle("poll of an empty one", x, 0, () -> x.poll(1, false));
        c.index("poll of no track", x, () -> x.poll(2, false));
        c.index("poll of no track", x, () -> x.poll(Integer.MIN_VALUE, true));
    }

    private static void pop() {
        c.promise(9);
        Twoends x = mixed();
        c.due("pop", 110, () -> x.pop(0));
        slips(x, 9, 110);
        c.due("pop of a gap", 0, () -> x.pop(1));
        slips(x, 10, 4000);
        c.due("pop", 601, () -> x.pop(1));
        texts(x, "217 324 431", "702 0");
        Twoends y = new Twoends();
        c.idle("pop of an empty one", y, -9, () -> y.pop(0));
        c.idle("pop of an empty one", y, -9, () -> y.pop(1));
        c.index("pop of no track", y, () -> y.pop(2));
        c.index("pop of no track", y, () -> y.pop(-1));
    }

    private static void serve() {
        c.promise(10);
        Twoends x = mixed();
        c.due("serve", 110, () -> x.serve(0, true));
        c.due("serve", 217, () -> x.serve(0, false));
        slips(x, 10, 217);
        c.due("serve of a gap", 0, () -> x.serve(1, false));
        slips(x, 11, 4000);
        texts(x, "324 431", "601 702 0");
        Twoends y = new Twoends();
        c.idle("serve of an empty one", y, -9, () -> y.serve(0, false));
        c.idle("serve of an empty one", y, 0, () -> y.serve(0, true));
        c.idle("serve of an empty one", y, 0, () -> y.serve(1, true));
        c.index("serve of no track", y, () -> y.serve(2, true));
        c.index("serve of no track", y, () -> y.serve(-1, false));
    }

    private static void rotate() {
        c.promise(11);
        Twoends x = mixed();
        x.turn(0);
        slips(x, 0, -1);
        texts(x, "431 324 217 110", "0 601 702 0");
        c.due("rotate", 110, () -> x.rotate(0, 1));
        slips(x, 2, 1110);
        texts(x, "110 431 324 217", "0 601 702 0");
        c.due("rotate", 324, () -> x.rotate(0, -2));
        slips(x, 6, 3431);
        texts(x, "324 217 110 431", "0 601 702 0");
        c.due("rotate of gaps", 0, () -> x.rotate(1, 1));
        slips(x, 8, 5000);
        texts(x, "324 217 110 431", "0 0 601 702");
        c.due("rotate by 6", 601, () -> x.rotate(1, 6));
        slips(x, 12, 5601);
        texts(x, "324 217 110 431", "601 702 0 0");
        c.idle("rotate by 0", x, 324, () -> x.rotate(0, 0));
        c.argument("rotate by 7", x, () -> x.rotate(0, 7));
        c.argument("rotate by -7", x, () -> x.rotate(1, -7));
        c.argument("rotate by the least", x, () -> x.rotate(1, Integer.MIN_VALUE));
        c.index("rotate of no track", x, () -> x.rotate(2, 7));
        Twoends one = new Twoends();
        one.join(0, true, 5, 5);
        one.walk(false);
        c.due("rotate of a single one", 505, () -> one.rotate(0, -2));
        slips(one, 5, 3505);
        c.due("the walk is over", 0, () -> one.yard(5));
        Twoends none = new Twoends();
        none.walk(true);
        c.idle("rotate of an empty one", none, 0, () -> none.rotate(0, 6));
        c.idle("rotate of an empty one", none, 0, () -> none.rotate(1, -6));
        Twoends full = full(1);
        c.due("rotate of a full one", 954, () -> full.rotate(1, 1));
    }

    private static void undo() {
        c.promise(12);
        Twoends x = new Twoends();
        c.idle("undo of none", x, -9, x::undo);
        x.join(0, true, 3, 40);
        x.push(0, 4, 41);
        x.take(0, true);
        x.push(1, 0, 0);
        x.append(1, 9, 99);
        x.poll(1, false);
        c.due("undo", 4000, x::undo);
        texts(x, "441", "0 999");
        slips(x, 5, 7999);
        c.due("undo", 7999, x::undo);
        c.due("undo", 5000, x::undo);
        texts(x, "441", "");
        c.due("undo", 2340, x::undo);
        texts(x, "441 340", "");
        x.walk(false);
        c.due("undo", 1441, x::undo);
        c.due("the walk is over", 0, () -> x.yard(5));
        texts(x, "340", "");
        c.due("undo", 3340, x::undo);
        c.idle("undo of none", x, -9, x::undo);
        texts(x, "", "");
    }

    private static void undoEverySort() {
        Twoends x = new Twoends();
        x.train(1, 1, 0, 12);
        x.train(1, 4, 1, 2);
        slips(x, 12, 7508);
        for (int k = 13; k >= 2; k--) {
            int size = k;
            x.undo();
            c.due("the lowest slips are thrown away", size, () -> x.ofTrack(1, 0));
        }
        c.idle("undo of none", x, -9, x::undo);
        x.stand(0, 1);
        x.stand(1, 2);
        x.take(1, true);
        x.stand(0, 1);
        c.due("undo", 6207, x::undo);
        c.due("undo makes walkers stale", 2, () -> x.where(0, 0));
        c.due("stale stays so", 2, () -> x.where(1, 0));
        x.take(1, true);
        x.cut(0);
        c.idle("cut tears", x, -9, x::undo);
        x.append(0, 1, 1);
        x.walk(false);
        x.append(1, 2, 2);
        c.due("undo on the line", 7202, x::undo);
        c.due("the walk goes on", 1, () -> x.yard(5));
        x.order(4);
        x.append(1, 7, 7);
        c.due("work", 1, () -> x.work(1));
        texts(x, "707 101", "");
        c.due("undo of half a move", 1707, x::undo);
        texts(x, "101", "");
        c.due("undo of the other half", 4707, x::undo);
        texts(x, "101", "707");
    }
}
