import java.util.ArrayDeque;
import java.util.ArrayList;
import java.util.Collections;
import java.util.Deque;
import java.util.List;
import java.util.ListIterator;

/**
 * The document once more, by other means than the class: pieces are objects, a slip keeps both tracks
 * as they were, the walk keeps the pieces that are left, a walker is a list iterator.
 */
public final class YardModel {
    private static final class Piece {
        final int kind;
        final int load;

        Piece(int kind, int load) {
            this.kind = kind;
            this.load = kind == 0 ? 0 : load;
        }

        int code() {
            return 100 * kind + load;
        }
    }

    private record Slip(int number, List<Piece> siding, List<Piece> line) {
    }

    private static final class Goer {
        ListIterator<Piece> way;
        boolean stale;
        Piece held;
    }

    private final List<Piece> siding = new ArrayList<>();
    private final List<Piece> line = new ArrayList<>();
    private final Deque<Slip> slips = new ArrayDeque<>();
    private final Deque<Integer> orders = new ArrayDeque<>();
    private final Goer[] goers = {new Goer(), new Goer()};
    private Deque<Piece> left;
    private boolean walkBack;
    private Piece stepped;
    private int knocks;

    private static void index(boolean ok) {
        if (!ok) {
            throw new IndexOutOfBoundsException();
        }
    }

    private static void argument(boolean ok) {
        if (!ok) {
            throw new IllegalArgumentException();
        }
    }

    private static void state(boolean ok) {
        if (!ok) {
            throw new IllegalStateException();
        }
    }

    private static boolean in(int value, int least, int most) {
        return least <= value && value <= most;
    }

    private List<Piece> row(int track) {
        index(in(track, 0, 1));
        return track == 0 ? siding : line;
    }

    private static void pieceOk(int kind, int load) {
        argument(in(kind, 0, 9) && in(load, 0, 99));
    }

    private void touched(List<Piece> row, Goer but) {
        if (row == siding) {
            left = null;
            return;
        }
        for (Goer goer : goers) {
            goer.stale |= goer.way != null && goer != but;
        }
    }

    private void slip(List<Piece> row, boolean back, boolean put, Piece piece) {
        int sort = 4 * (row == line ? 1 : 0) + 2 * (back ? 1 : 0) + (put ? 1 : 0);
        slips.push(new Slip(1000 * sort + piece.code(), List.copyOf(siding), List.copyOf(line)));
        if (slips.size() == 13) {
            slips.removeLast();
        }
    }

    private void stepOn(List<Piece> row, boolean back, Piece piece) {
        slip(row, back, true, piece);
        row.add(back ? row.size() : 0, piece);
        touched(row, null);
    }

    private Piece stepOff(List<Piece> row, boolean back) {
        Piece piece = row.get(back ? row.size() - 1 : 0);
        slip(row, back, false, piece);
        row.remove(back ? row.size() - 1 : 0);
        touched(row, null);
        return piece;
    }

    private void tear(List<Piece> row) {
        slips.clear();
        touched(row, null);
    }

    private boolean on(int track, boolean back, int kind, int load) {
        List<Piece> row = row(track);
        pieceOk(kind, load);
        state(row.size() < 20);
        if (kind == 0 && track == 0) {
            return false;
        }
        stepOn(row, back, new Piece(kind, load));
        return true;
    }

    public int join(int track, boolean isBack, int kind, int load) {
        return on(track, isBack, kind, load) ? row(track).size() : -9;
    }

    public boolean offer(int track, boolean isBack, int kind, int load) {
        return on(track, isBack, kind, load);
    }

    public int push(int track, int kind, int load) {
        int before = row(track).isEmpty() ? 0 : row(track).get(0).code();
        return on(track, false, kind, load) ? before : -9;
    }

    public int append(int track, int kind, int load) {
        return on(track, true, kind, load) ? row(track).size() : -9;
    }

    public int train(int track, int kind, int load, int many) {
        List<Piece> row = row(track);
        argument(in(kind, 1, 9) && in(load, 0, 99) && in(many, 1, 12));
        state(row.size() + many <= 20);
        int nextKind = kind;
        int nextLoad = load;
        for (int k = 0; k < many; k++) {
            stepOn(row, true, new Piece(nextKind, nextLoad));
            nextKind = nextKind == 9 ? 1 : nextKind + 1;
            nextLoad = nextLoad + 7 >= 100 ? nextLoad - 93 : nextLoad + 7;
        }
        return row.size();
    }

    private int off(int track, boolean back, int ifNone) {
        List<Piece> row = row(track);
        return row.isEmpty() ? ifNone : stepOff(row, back).code();
    }

    public int take(int track, boolean isBack) {
        return off(track, isBack, -9);
    }

    public int poll(int track, boolean isBack) {
        return off(track, isBack, 0);
    }

    public int pop(int track) {
        return off(track, false, -9);
    }

    public int serve(int track, boolean isMild) {
        return off(track, false, isMild ? 0 : -9);
    }

    public int rotate(int track, int by) {
        List<Piece> row = row(track);
        argument(in(by, -6, 6));
        if (row.isEmpty()) {
            return 0;
        }
        for (int k = 0; k < by; k++) {
            stepOn(row, false, stepOff(row, true));
        }
        for (int k = 0; k > by; k--) {
            stepOn(row, true, stepOff(row, false));
        }
        return row.get(0).code();
    }

    public int undo() {
        if (slips.isEmpty()) {
            return -9;
        }
        Slip top = slips.pop();
        boolean onLine = top.number() >= 4000;
        List<Piece> row = onLine ? line : siding;
        row.clear();
        row.addAll(onLine ? top.line() : top.siding());
        touched(row, null);
        return top.number();
    }

    private void kindOk(int track, int kind) {
        index(in(track, 0, 1));
        argument(in(kind, 0, 9) && (kind != 0 || track == 1));
    }

    private static List<Piece> ofKind(List<Piece> row, int kind) {
        return row.stream().filter(p -> p.kind == kind).toList();
    }

    /** Takes off these very pieces, not others that look the same. */
    private int remove(List<Piece> row, List<Piece> off) {
        if (off.isEmpty()) {
            return 0;
        }
        row.removeIf(p -> off.stream().anyMatch(o -> o == p));
        tear(row);
        return off.size();
    }

    public boolean drop(int track, int kind, boolean isLast) {
        kindOk(track, kind);
        List<Piece> such = ofKind(row(track), kind);
        if (such.isEmpty()) {
            return false;
        }
        return remove(row(track), List.of(such.get(isLast ? such.size() - 1 : 0))) == 1;
    }

    public int dropAll(int track, int kind) {
        kindOk(track, kind);
        return remove(row(track), ofKind(row(track), kind));
    }

    private static List<Piece> from(List<Piece> row, boolean back) {
        List<Piece> met = new ArrayList<>(row);
        if (back) {
            Collections.reverse(met);
        }
        return met;
    }

    public int shed(int track, boolean isBack, int load, int many) {
        List<Piece> row = row(track);
        argument(in(load, 0, 99) && in(many, 1, 20));
        List<Piece> off = from(row, isBack).stream().filter(p -> p.load >= load).limit(many).toList();
        remove(row, off);
        return off.stream().mapToInt(p -> p.load).sum();
    }

    public int thin(int track, boolean isBack, int step) {
        List<Piece> row = row(track);
        argument(in(step, 2, 5));
        List<Piece> met = from(row, isBack);
        List<Piece> off = new ArrayList<>();
        for (int turn = step; turn <= met.size(); turn += step) {
            off.add(met.get(turn - 1));
        }
        return remove(row, off);
    }

    public int turn(int track) {
        List<Piece> row = row(track);
        if (row.isEmpty()) {
            return 0;
        }
        Collections.reverse(row);
        tear(row);
        return row.get(0).code();
    }

    public int clear(int track) {
        return remove(row(track), List.copyOf(row(track)));
    }

    public int purge(boolean isKept) {
        return remove(line, line.stream()
                .filter(p -> isKept == siding.stream().noneMatch(s -> s.kind == p.kind)).toList());
    }

    public int walk(boolean isBack) {
        left = new ArrayDeque<>(from(siding, isBack));
        walkBack = isBack;
        stepped = null;
        return siding.size();
    }

    public int step() {
        state(left != null);
        if (left.isEmpty()) {
            return -9;
        }
        stepped = left.pop();
        return stepped.code();
    }

    public int pluck() {
        state(left != null);
        if (stepped == null) {
            return -9;
        }
        siding.removeIf(p -> p == stepped);
        stepped = null;
        slips.clear();
        return siding.size();
    }

    public int insert(int place, int kind, int load) {
        index(in(place, 0, 20));
        pieceOk(kind, load);
        state(line.size() < 20);
        if (place > line.size()) {
            return -9;
        }
        line.add(place, new Piece(kind, load));
        tear(line);
        return line.size();
    }

    public int cut(int place) {
        index(in(place, 0, 19));
        if (place >= line.size()) {
            return -9;
        }
        int code = line.remove(place).code();
        tear(line);
        return code;
    }

    public int replace(int place, int kind, int load) {
        index(in(place, 0, 19));
        pieceOk(kind, load);
        if (place >= line.size()) {
            return -9;
        }
        slips.clear();
        return line.set(place, new Piece(kind, load)).code();
    }

    public int at(int place) {
        index(in(place, 0, 19));
        return place >= line.size() ? -9 : line.get(place).code();
    }

    public int find(int kind, boolean isLast) {
        argument(in(kind, 0, 9));
        List<Integer> kinds = line.stream().map(p -> p.kind).toList();
        return isLast ? kinds.lastIndexOf(kind) : kinds.indexOf(kind);
    }

    public int splice(int place) {
        index(in(place, 0, 20));
        state(siding.size() + line.size() <= 20);
        if (siding.isEmpty()) {
            return 0;
        }
        if (place > line.size()) {
            return -9;
        }
        line.addAll(place, siding);
        int many = siding.size();
        siding.clear();
        tear(line);
        tear(siding);
        return many;
    }

    public int shunt(int place, int many) {
        index(in(place, 0, 19));
        argument(in(many, 1, 20));
        state(siding.size() + many <= 20);
        if (place >= line.size()) {
            return -9;
        }
        List<Piece> off = List.copyOf(line.subList(place, Math.min(line.size(), place + many)));
        remove(line, off);
        List<Piece> wagons = off.stream().filter(p -> p.kind != 0).toList();
        if (!wagons.isEmpty()) {
            siding.addAll(wagons);
            tear(siding);
        }
        return wagons.size();
    }

    private Goer goer(int walker) {
        index(in(walker, 0, 1));
        return goers[walker];
    }

    public int stand(int walker, int place) {
        Goer goer = goer(walker);
        index(in(place, 0, 20));
        if (place > line.size()) {
            return -9;
        }
        goer.way = line.listIterator(place);
        goer.stale = false;
        goer.held = null;
        return place;
    }

    public int forth(int walker) {
        Goer goer = goer(walker);
        state(goer.way != null);
        if (goer.stale || !goer.way.hasNext()) {
            return -9;
        }
        goer.held = goer.way.next();
        return goer.held.code();
    }

    public int back(int walker) {
        Goer goer = goer(walker);
        state(goer.way != null);
        if (goer.stale || !goer.way.hasPrevious()) {
            return -9;
        }
        goer.held = goer.way.previous();
        return goer.held.code();
    }

    public int takeHeld(int walker) {
        Goer goer = goer(walker);
        state(goer.way != null);
        if (goer.stale || goer.held == null) {
            return -9;
        }
        goer.way.remove();
        goer.held = null;
        slips.clear();
        touched(line, goer);
        return goer.way.nextIndex();
    }

    public int setHeld(int walker, int kind, int load) {
        Goer goer = goer(walker);
        pieceOk(kind, load);
        state(goer.way != null);
        if (goer.stale || goer.held == null) {
            return -9;
        }
        goer.way.set(new Piece(kind, load));
        slips.clear();
        return goer.way.nextIndex();
    }

    public int put(int walker, int kind, int load) {
        Goer goer = goer(walker);
        pieceOk(kind, load);
        state(goer.way != null && line.size() < 20);
        if (goer.stale) {
            return -9;
        }
        goer.way.add(new Piece(kind, load));
        goer.held = null;
        slips.clear();
        touched(line, goer);
        return goer.way.nextIndex();
    }

    public int where(int walker, int what) {
        Goer goer = goer(walker);
        argument(in(what, 0, 4));
        if (what == 0) {
            return goer.way == null ? 0 : goer.stale ? 2 : 1;
        }
        state(goer.way != null && !goer.stale);
        int[] facts = {goer.way.nextIndex(), goer.way.previousIndex(),
            goer.way.hasNext() ? 1 : 0, goer.way.hasPrevious() ? 1 : 0};
        return facts[what - 1];
    }

    public int order(int what) {
        argument(in(what, 0, 7));
        state(orders.size() < 10);
        orders.addLast(what);
        return orders.size();
    }

    private boolean moved(int what) {
        List<Piece> from = (what & 4) == 0 ? siding : line;
        List<Piece> to = from == siding ? line : siding;
        boolean back = (what & 2) != 0;
        if (from.isEmpty() || to.size() == 20) {
            return false;
        }
        if (to == siding && from.get(back ? from.size() - 1 : 0).kind == 0) {
            return false;
        }
        stepOn(to, (what & 1) != 0, stepOff(from, back));
        return true;
    }

    public int work(int many) {
        argument(in(many, 1, 10));
        int done = 0;
        for (int k = 0; k < many; k++) {
            Integer what = orders.pollFirst();
            if (what != null && moved(what)) {
                done++;
            } else if (what != null) {
                orders.addLast(what);
            }
        }
        return done;
    }

    public boolean cancel(int what, boolean isLast) {
        argument(in(what, 0, 7));
        return isLast ? orders.removeLastOccurrence(what) : orders.removeFirstOccurrence(what);
    }

    public int ask(int track, int way) {
        List<Piece> row = row(track);
        argument(in(way, 0, 5));
        if (row.isEmpty()) {
            return List.of(-9, -9, 0, 0, -9, 0).get(way);
        }
        return row.get(List.of(0, row.size() - 1, 0, row.size() - 1, 0, 0).get(way)).code();
    }

    public int ofTrack(int track, int what) {
        List<Piece> row = row(track);
        argument(in(what, 0, 3));
        return switch (what) {
            case 0 -> row.size();
            case 1 -> row.isEmpty() ? 1 : 0;
            case 2 -> row.stream().mapToInt(p -> p.load).sum();
            default -> row.stream().map(p -> p.kind).toList().hashCode();
        };
    }

    public boolean has(int track, int kind) {
        kindOk(track, kind);
        return !ofKind(row(track), kind).isEmpty();
    }

    public boolean compare(boolean isWhole) {
        List<Integer> ours = siding.stream().map(p -> p.kind).toList();
        List<Integer> theirs = line.stream().map(p -> p.kind).toList();
        return isWhole ? ours.equals(theirs) : theirs.containsAll(ours);
    }

    public String text(int track, boolean isBack) {
        return String.join(" ", from(row(track), isBack).stream().map(p -> "" + p.code()).toList());
    }

    public int nested(int track) {
        StringBuilder open = new StringBuilder();
        int most = 0;
        for (Piece piece : row(track)) {
            switch (piece.kind) {
                case 1, 3, 5, 7 -> open.append(piece.kind + 1);
                case 2, 4, 6, 8 -> {
                    if (!open.toString().endsWith("" + piece.kind)) {
                        return -1;
                    }
                    open.setLength(open.length() - 1);
                }
                default -> {
                }
            }
            most = Math.max(most, open.length());
        }
        return open.isEmpty() ? most : -1;
    }

    public int heaviest(int track, int window, int place) {
        List<Piece> row = row(track);
        index(in(place, 0, 19));
        argument(in(window, 1, 20));
        if (place + window > row.size()) {
            return -1;
        }
        return row.subList(place, place + window).stream().mapToInt(p -> p.load).max().getAsInt();
    }

    public int ahead(int track, int place) {
        List<Piece> row = row(track);
        index(in(place, 0, 19));
        if (place >= row.size()) {
            return -9;
        }
        int found = -1;
        for (int met = 0; met < place; met++) {
            found = row.get(met).load > row.get(place).load ? met : found;
        }
        return found;
    }

    public int yard(int what) {
        argument(in(what, 0, 7));
        return switch (what) {
            case 0 -> orders.size();
            case 1 -> orders.isEmpty() ? -1 : orders.peekFirst();
            case 2 -> orders.isEmpty() ? -1 : orders.peekLast();
            case 3 -> slips.size();
            case 4 -> slips.isEmpty() ? -1 : slips.peek().number();
            case 5 -> left == null ? 0 : walkBack ? 2 : 1;
            case 6 -> left == null || left.isEmpty() ? 0 : 1;
            default -> knocks;
        };
    }

    public int knock() {
        return ++knocks;
    }

    public boolean isSound() {
        return true;
    }

    public long digest() {
        List<Long> values = new ArrayList<>();
        for (int track = 0; track <= 1; track++) {
            for (int what = 0; what <= 3; what++) {
                values.add((long) ofTrack(track, what));
            }
            for (int way = 0; way <= 5; way++) {
                values.add((long) ask(track, way));
            }
            row(track).forEach(p -> values.add((long) p.code()));
            values.add((long) text(track, true).length());
            values.add((long) nested(track));
        }
        for (int kind = 0; kind <= 9; kind++) {
            values.add((long) find(kind, false));
            values.add((long) find(kind, true));
        }
        for (int walker = 0; walker <= 1; walker++) {
            for (int what = 0; what <= (where(walker, 0) == 1 ? 4 : 0); what++) {
                values.add((long) where(walker, what));
            }
        }
        for (int what = 0; what <= 7; what++) {
            values.add((long) yard(what));
        }
        slips.forEach(s -> values.add((long) s.number()));
        orders.forEach(o -> values.add((long) o));
        values.add(compare(false) ? 1L : 0L);
        values.add(compare(true) ? 1L : 0L);
        values.add(isSound() ? 1L : 0L);
        long d = 8317;
        for (long v : values) {
            d = 31 * d + v;
        }
        return d;
    }
}
