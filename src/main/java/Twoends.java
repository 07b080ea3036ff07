/**
 * A yard with two tracks of wagons, which are put, taken, found, walked over,
 * moved by orders and undone by slips, at both ends and in between.
 */
public final class Twoends {
    private static final int NONE = -1;
    private static final int REFUSED = -9;

    private static final int SIDING = 0;
    private static final int LINE = 1;
    private static final int GAP = 0;

    private static final int TRACK_ROOM = 20;
    private static final int SLIP_ROOM = 12;
    private static final int ORDER_ROOM = 10;
    private static final int MOST_KIND = 9;
    private static final int MOST_LOAD = 99;

    private static final int NOWHERE = 0;
    private static final int FRESH = 1;
    private static final int STALE = 2;

    private final Row siding;
    private final Row line;
    private final Row slips;
    private final Row orders;
    private final Walk sidingWalk;
    private final Walker walkerZero;
    private final Walker walkerOne;
    private int knocks;

    // Made once and used again, so that a call leaves no objects behind.
    private final Row paperSiding;
    private final Row paperLine;
    private final Row openBrackets;

    /** A row of numbers without holes, with room for so many and no more. */
    private static final class Row {
        private final int[] cells;
        private int count;

        Row(int room) {
            cells = new int[room > 0 ? room : 0];
            count = 0;
        }

        int size() {
            return count;
        }

        boolean isEmpty() {
            return count == 0;
        }

        boolean isFull() {
            return count >= cells.length;
        }

        /** The number at a place; 0 where there is none. */
        int read(int place) {
            return place >= 0 && place < count && place < cells.length ? cells[place] : 0;
        }

        /** The number that is met after so many others, gone along from an end. */
        int readFrom(boolean isBack, int others) {
            return read(isBack ? count - 1 - others : others);
        }

        void overwrite(int place, int number) {
            if (place >= 0 && place < count && place < cells.length) {
                cells[place] = number;
            }
        }

        void enter(int place, int number) {
            if (isFull() || place < 0 || place > count) {
                return;
            }
            count++;
            for (int to = count - 1; to > place; to--) {
                overwrite(to, read(to - 1));
            }
            overwrite(place, number);
        }

        void enterLast(int number) {
            enter(count, number);
        }

        /** Takes the number at a place out and tells it; 0 where there is none. */
        int leave(int place) {
            if (place < 0 || place >= count) {
                return 0;
            }
            int number = read(place);
            for (int to = place; to < count - 1; to++) {
                overwrite(to, read(to + 1));
            }
            count--;
            return number;
        }

        void empty() {
            count = 0;
        }

        void copyFrom(Row other) {
            empty();
            for (int place = 0; place < other.size(); place++) {
                enterLast(other.read(place));
            }
        }

        /** The place at an end; NONE in an empty row, whichever end. */
        int endPlace(boolean isBack) {
            return isBack || count == 0 ? count - 1 : 0;
        }

        /** The place of the first or last number that is told; NONE if there is none. */
        int placeOf(int number, boolean isLast) {
            int met = NONE;
            for (int place = 0; place < count; place++) {
                if (read(place) == number && (isLast || met == NONE)) {
                    met = place;
                }
            }
            return met;
        }

        /** The place of the first or last piece of a kind; NONE if there is none. */
        int placeOfKind(int kind, boolean isLast) {
            int met = NONE;
            for (int place = 0; place < count; place++) {
                if (kindOf(read(place)) == kind && (isLast || met == NONE)) {
                    met = place;
                }
            }
            return met;
        }
    }

    /** The walk of the siding; it is over when isOn is false. */
    private static final class Walk {
        private boolean isOn;
        private boolean isFromBack;
        private int next;
        private int held;

        Walk() {
            isOn = false;
            isFromBack = false;
            next = 0;
            held = NONE;
        }

        void begin(boolean isBack, int size) {
            isOn = true;
            isFromBack = isBack;
            next = isBack ? size - 1 : 0;
            held = NONE;
        }

        void end() {
            isOn = false;
            held = NONE;
        }

        boolean hasNext(int size) {
            return isOn && next >= 0 && next < size;
        }

        void goOn() {
            held = next;
            next += isFromBack ? -1 : 1;
        }

        /** What lay behind the held piece came one place nearer to the front. */
        void letGo() {
            if (!isFromBack) {
                next = held;
            }
            held = NONE;
        }
    }

    /** A walker of the line. */
    private static final class Walker {
        private int state;
        private int cleft;
        private int held;

        Walker() {
            state = NOWHERE;
            cleft = 0;
            held = NONE;
        }

        void standAt(int place) {
            state = FRESH;
            cleft = place;
            held = NONE;
        }

        void growStale() {
            if (state != NOWHERE) {
                state = STALE;
            }
        }

        boolean isFresh() {
            return state == FRESH;
        }

        boolean holds() {
            return isFresh() && held != NONE;
        }

        void goForth() {
            held = cleft;
            cleft++;
        }

        void goBack() {
            cleft--;
            held = cleft;
        }

        void loseHeld() {
            if (held < cleft) {
                cleft--;
            }
            held = NONE;
        }

        void passNew() {
            cleft++;
            held = NONE;
        }
    }

    public Twoends() {
        siding = new Row(TRACK_ROOM);
        line = new Row(TRACK_ROOM);
        slips = new Row(SLIP_ROOM);
        orders = new Row(ORDER_ROOM);
        sidingWalk = new Walk();
        walkerZero = new Walker();
        walkerOne = new Walker();
        knocks = 0;
        paperSiding = new Row(TRACK_ROOM);
        paperLine = new Row(TRACK_ROOM);
        openBrackets = new Row(TRACK_ROOM);
    }

    // ---- pieces put at the ends

    public int join(int track, boolean isBack, int kind, int load)
            throws IndexOutOfBoundsException, IllegalArgumentException, IllegalStateException {
        return bringPiece(track, isBack, kind, load) ? trackOf(track).size() : REFUSED;
    }

    public boolean offer(int track, boolean isBack, int kind, int load)
            throws IndexOutOfBoundsException, IllegalArgumentException, IllegalStateException {
        return bringPiece(track, isBack, kind, load);
    }

    public int push(int track, int kind, int load)
            throws IndexOutOfBoundsException, IllegalArgumentException, IllegalStateException {
        needTrack(track);
        int before = codeAtEnd(track, false);
        return bringPiece(track, false, kind, load) ? before : REFUSED;
    }

    public int append(int track, int kind, int load)
            throws IndexOutOfBoundsException, IllegalArgumentException, IllegalStateException {
        return bringPiece(track, true, kind, load) ? trackOf(track).size() : REFUSED;
    }

    public int train(int track, int kind, int load, int many)
            throws IndexOutOfBoundsException, IllegalArgumentException, IllegalStateException {
        needTrack(track);
        needWithin(kind, 1, MOST_KIND);
        needWithin(load, 0, MOST_LOAD);
        needWithin(many, 1, 12);
        needRoom(track, many);
        for (int k = 0; k < many; k++) {
            stepOn(track, true, codeOf(1 + (kind - 1 + k) % 9, (load + 7 * k) % 100));
        }
        return trackOf(track).size();
    }

    // ---- pieces taken off at the ends

    public int take(int track, boolean isBack) throws IndexOutOfBoundsException {
        needTrack(track);
        return fetchPiece(track, isBack, REFUSED);
    }

    public int poll(int track, boolean isBack) throws IndexOutOfBoundsException {
        needTrack(track);
        return fetchPiece(track, isBack, 0);
    }

    public int pop(int track) throws IndexOutOfBoundsException {
        needTrack(track);
        return fetchPiece(track, false, REFUSED);
    }

    public int serve(int track, boolean isMild) throws IndexOutOfBoundsException {
        needTrack(track);
        return fetchPiece(track, false, isMild ? 0 : REFUSED);
    }

    public int rotate(int track, int by) throws IndexOutOfBoundsException, IllegalArgumentException {
        needTrack(track);
        needWithin(by, -6, 6);
        boolean isFromBack = by > 0;
        int many = trackOf(track).isEmpty() ? 0 : Math.abs(by);
        for (int k = 0; k < many; k++) {
            int code = stepOff(track, isFromBack);
            stepOn(track, !isFromBack, code);
        }
        return codeAtEnd(track, false);
    }

    public int undo() {
        if (slips.isEmpty()) {
            return REFUSED;
        }
        int number = slips.leave(slips.endPlace(true));
        int track = slipTrack(number);
        Row row = trackOf(track);
        if (slipIsPut(number)) {
            row.leave(row.endPlace(slipIsBack(number)));
        } else {
            row.enter(slipIsBack(number) ? row.size() : 0, slipCode(number));
        }
        disturb(track);
        return number;
    }

    // ---- pieces by their kind, and whole tracks

    public boolean drop(int track, int kind, boolean isLast)
            throws IndexOutOfBoundsException, IllegalArgumentException {
        needTrack(track);
        needKindOf(track, kind);
        Row row = trackOf(track);
        int place = row.placeOfKind(kind, isLast);
        if (place == NONE) {
            return false;
        }
        row.leave(place);
        tearFor(track);
        return true;
    }

    public int dropAll(int track, int kind) throws IndexOutOfBoundsException, IllegalArgumentException {
        needTrack(track);
        needKindOf(track, kind);
        Row row = trackOf(track);
        int met = row.size();
        int off = 0;
        for (int k = 0; k < met; k++) {
            int place = k - off;
            if (kindOf(row.read(place)) == kind) {
                row.leave(place);
                off++;
            }
        }
        tearIfAny(track, off);
        return off;
    }

    public int shed(int track, boolean isBack, int load, int many)
            throws IndexOutOfBoundsException, IllegalArgumentException {
        needTrack(track);
        needWithin(load, 0, MOST_LOAD);
        needWithin(many, 1, 20);
        Row row = trackOf(track);
        int met = row.size();
        int off = 0;
        int sum = 0;
        for (int k = 0; k < met && off < many; k++) {
            int place = isBack ? met - 1 - k : k - off;
            int own = loadOf(row.read(place));
            if (own >= load) {
                row.leave(place);
                off++;
                sum += own;
            }
        }
        tearIfAny(track, off);
        return sum;
    }

    public int thin(int track, boolean isBack, int step)
            throws IndexOutOfBoundsException, IllegalArgumentException {
        needTrack(track);
        needWithin(step, 2, 5);
        Row row = trackOf(track);
        int met = row.size();
        int off = 0;
        int turnsLeft = step;
        for (int k = 0; k < met; k++) {
            turnsLeft--;
            if (turnsLeft == 0) {
                row.leave(isBack ? met - 1 - k : k - off);
                off++;
                turnsLeft = step;
            }
        }
        tearIfAny(track, off);
        return off;
    }

    public int turn(int track) throws IndexOutOfBoundsException {
        needTrack(track);
        Row row = trackOf(track);
        int front = 0;
        int back = row.size() - 1;
        while (front < back) {
            int code = row.read(front);
            row.overwrite(front, row.read(back));
            row.overwrite(back, code);
            front++;
            back--;
        }
        tearIfAny(track, row.size());
        return codeAtEnd(track, false);
    }

    public int clear(int track) throws IndexOutOfBoundsException {
        needTrack(track);
        Row row = trackOf(track);
        int many = row.size();
        row.empty();
        tearIfAny(track, many);
        return many;
    }

    public int purge(boolean isKept) {
        int met = line.size();
        int off = 0;
        for (int k = 0; k < met; k++) {
            int place = k - off;
            if (isLikeOneOf(siding, line.read(place)) != isKept) {
                line.leave(place);
                off++;
            }
        }
        tearIfAny(LINE, off);
        return off;
    }

    // ---- a walk of the siding

    public int walk(boolean isBack) {
        sidingWalk.begin(isBack, siding.size());
        return siding.size();
    }

    public int step() throws IllegalStateException {
        needWalk();
        if (!sidingWalk.hasNext(siding.size())) {
            return REFUSED;
        }
        sidingWalk.goOn();
        return siding.read(sidingWalk.held);
    }

    public int pluck() throws IllegalStateException {
        needWalk();
        if (sidingWalk.held == NONE) {
            return REFUSED;
        }
        siding.leave(sidingWalk.held);
        sidingWalk.letGo();
        slips.empty();
        return siding.size();
    }

    // ---- the line by its places

    public int insert(int place, int kind, int load)
            throws IndexOutOfBoundsException, IllegalArgumentException, IllegalStateException {
        needPlace(place, TRACK_ROOM);
        needPiece(kind, load);
        needRoom(LINE, 1);
        if (place > line.size()) {
            return REFUSED;
        }
        line.enter(place, codeOf(kind, load));
        tearFor(LINE);
        return line.size();
    }

    public int cut(int place) throws IndexOutOfBoundsException {
        needPlace(place, TRACK_ROOM - 1);
        if (place >= line.size()) {
            return REFUSED;
        }
        int code = line.leave(place);
        tearFor(LINE);
        return code;
    }

    public int replace(int place, int kind, int load)
            throws IndexOutOfBoundsException, IllegalArgumentException {
        needPlace(place, TRACK_ROOM - 1);
        needPiece(kind, load);
        if (place >= line.size()) {
            return REFUSED;
        }
        int before = line.read(place);
        layAnew(place, codeOf(kind, load));
        return before;
    }

    public int at(int place) throws IndexOutOfBoundsException {
        needPlace(place, TRACK_ROOM - 1);
        return place < line.size() ? line.read(place) : REFUSED;
    }

    public int find(int kind, boolean isLast) throws IllegalArgumentException {
        needWithin(kind, 0, MOST_KIND);
        return line.placeOfKind(kind, isLast);
    }

    public int splice(int place) throws IndexOutOfBoundsException, IllegalStateException {
        needPlace(place, TRACK_ROOM);
        int many = siding.size();
        needRoom(LINE, many);
        if (many == 0) {
            return 0;
        }
        if (place > line.size()) {
            return REFUSED;
        }
        for (int k = 0; k < many; k++) {
            line.enter(place + k, siding.read(k));
        }
        siding.empty();
        tearFor(LINE);
        disturb(SIDING);
        return many;
    }

    public int shunt(int place, int many)
            throws IndexOutOfBoundsException, IllegalArgumentException, IllegalStateException {
        needPlace(place, TRACK_ROOM - 1);
        needWithin(many, 1, 20);
        needRoom(SIDING, many);
        if (place >= line.size()) {
            return REFUSED;
        }
        int there = Math.min(many, line.size() - place);
        int came = 0;
        for (int k = 0; k < there; k++) {
            int code = line.leave(place);
            if (kindOf(code) != GAP) {
                siding.enterLast(code);
                came++;
            }
        }
        tearFor(LINE);
        if (came > 0) {
            disturb(SIDING);
        }
        return came;
    }

    // ---- walkers of the line

    public int stand(int walker, int place) throws IndexOutOfBoundsException {
        needWalker(walker);
        needPlace(place, TRACK_ROOM);
        if (place > line.size()) {
            return REFUSED;
        }
        walkerOf(walker).standAt(place);
        return place;
    }

    public int forth(int walker) throws IndexOutOfBoundsException, IllegalStateException {
        needWalker(walker);
        needSomewhere(walker);
        Walker own = walkerOf(walker);
        if (!own.isFresh() || own.cleft >= line.size()) {
            return REFUSED;
        }
        own.goForth();
        return line.read(own.held);
    }

    public int back(int walker) throws IndexOutOfBoundsException, IllegalStateException {
        needWalker(walker);
        needSomewhere(walker);
        Walker own = walkerOf(walker);
        if (!own.isFresh() || own.cleft <= 0) {
            return REFUSED;
        }
        own.goBack();
        return line.read(own.held);
    }

    public int takeHeld(int walker) throws IndexOutOfBoundsException, IllegalStateException {
        needWalker(walker);
        needSomewhere(walker);
        Walker own = walkerOf(walker);
        if (!own.holds()) {
            return REFUSED;
        }
        line.leave(own.held);
        own.loseHeld();
        tearForWalker(walker);
        return own.cleft;
    }

    public int setHeld(int walker, int kind, int load)
            throws IndexOutOfBoundsException, IllegalArgumentException, IllegalStateException {
        needWalker(walker);
        needPiece(kind, load);
        needSomewhere(walker);
        Walker own = walkerOf(walker);
        if (!own.holds()) {
            return REFUSED;
        }
        layAnew(own.held, codeOf(kind, load));
        return own.cleft;
    }

    public int put(int walker, int kind, int load)
            throws IndexOutOfBoundsException, IllegalArgumentException, IllegalStateException {
        needWalker(walker);
        needPiece(kind, load);
        needSomewhere(walker);
        needRoom(LINE, 1);
        Walker own = walkerOf(walker);
        if (!own.isFresh()) {
            return REFUSED;
        }
        line.enter(own.cleft, codeOf(kind, load));
        own.passNew();
        tearForWalker(walker);
        return own.cleft;
    }

    public int where(int walker, int what)
            throws IndexOutOfBoundsException, IllegalArgumentException, IllegalStateException {
        needWalker(walker);
        needWithin(what, 0, 4);
        if (what > 0 && !walkerOf(walker).isFresh()) {
            throw new IllegalStateException("the walker is not fresh");
        }
        return ofWalker(walker, what);
    }

    // ---- orders

    public int order(int what) throws IllegalArgumentException, IllegalStateException {
        needWithin(what, 0, 7);
        if (orders.isFull()) {
            throw new IllegalStateException("there are as many orders as may be");
        }
        orders.enterLast(what);
        return orders.size();
    }

    public int work(int many) throws IllegalArgumentException {
        needWithin(many, 1, 10);
        int done = 0;
        for (int k = 0; k < many && !orders.isEmpty(); k++) {
            int what = orders.leave(0);
            if (canMove(what)) {
                move(what);
                done++;
            } else {
                orders.enterLast(what);
            }
        }
        return done;
    }

    public boolean cancel(int what, boolean isLast) throws IllegalArgumentException {
        needWithin(what, 0, 7);
        int place = orders.placeOf(what, isLast);
        if (place == NONE) {
            return false;
        }
        orders.leave(place);
        return true;
    }

    // ---- what is asked

    public int ask(int track, int way) throws IndexOutOfBoundsException, IllegalArgumentException {
        needTrack(track);
        needWithin(way, 0, 5);
        return atEnd(track, way);
    }

    public int ofTrack(int track, int what) throws IndexOutOfBoundsException, IllegalArgumentException {
        needTrack(track);
        needWithin(what, 0, 3);
        return factOfTrack(track, what);
    }

    public boolean has(int track, int kind) throws IndexOutOfBoundsException, IllegalArgumentException {
        needTrack(track);
        needKindOf(track, kind);
        return trackOf(track).placeOfKind(kind, false) != NONE;
    }

    public boolean compare(boolean isWhole) {
        return isWhole ? isSameAllAlong() : isSidingAmongLine();
    }

    public String text(int track, boolean isBack) throws IndexOutOfBoundsException {
        needTrack(track);
        Row row = trackOf(track);
        StringBuilder written = new StringBuilder();
        for (int k = 0; k < row.size(); k++) {
            if (k > 0) {
                written.append(' ');
            }
            written.append(row.readFrom(isBack, k));
        }
        return written.toString();
    }

    public int nested(int track) throws IndexOutOfBoundsException {
        needTrack(track);
        return mostOpen(track);
    }

    public int heaviest(int track, int window, int place)
            throws IndexOutOfBoundsException, IllegalArgumentException {
        needTrack(track);
        needPlace(place, TRACK_ROOM - 1);
        needWithin(window, 1, 20);
        Row row = trackOf(track);
        if (place + window > row.size()) {
            return NONE;
        }
        int most = 0;
        for (int k = 0; k < window; k++) {
            most = Math.max(most, loadOf(row.read(place + k)));
        }
        return most;
    }

    public int ahead(int track, int place) throws IndexOutOfBoundsException {
        needTrack(track);
        needPlace(place, TRACK_ROOM - 1);
        Row row = trackOf(track);
        if (place >= row.size()) {
            return REFUSED;
        }
        int own = loadOf(row.read(place));
        for (int met = place - 1; met >= 0; met--) {
            if (loadOf(row.read(met)) > own) {
                return met;
            }
        }
        return NONE;
    }

    public int yard(int what) throws IllegalArgumentException {
        needWithin(what, 0, 7);
        return factOfYard(what);
    }

    public int knock() {
        knocks++;
        return knocks;
    }

    public boolean isSound() {
        return isRowSound(siding)
                && isRowSound(line)
                && siding.placeOfKind(GAP, false) == NONE
                && isLineFound()
                && isWalkerSound(walkerZero)
                && isWalkerSound(walkerOne)
                && slips.size() <= SLIP_ROOM
                && orders.size() <= ORDER_ROOM
                && isUndoneOnPaper();
    }

    public long digest() {
        long d = 8317;
        d = withTrack(d, SIDING);
        d = withTrack(d, LINE);
        for (int kind = 0; kind <= MOST_KIND; kind++) {
            d = with(d, line.placeOfKind(kind, false));
            d = with(d, line.placeOfKind(kind, true));
        }
        d = withWalker(d, 0);
        d = withWalker(d, 1);
        for (int what = 0; what <= 7; what++) {
            d = with(d, factOfYard(what));
        }
        for (int place = slips.size() - 1; place >= 0; place--) {
            d = with(d, slips.read(place));
        }
        for (int place = 0; place < orders.size(); place++) {
            d = with(d, orders.read(place));
        }
        d = with(d, oneIf(compare(false)));
        d = with(d, oneIf(compare(true)));
        return with(d, oneIf(isSound()));
    }

    // ---- what a call asks for before it does anything

    private static void needWithin(int number, int least, int most) {
        if (number < least || number > most) {
            throw new IllegalArgumentException("a number outside of what may be told");
        }
    }

    private static void needTrack(int track) {
        if (track != SIDING && track != LINE) {
            throw new IndexOutOfBoundsException("no such track");
        }
    }

    private static void needWalker(int walker) {
        if (walker != 0 && walker != 1) {
            throw new IndexOutOfBoundsException("no such walker");
        }
    }

    private static void needPlace(int place, int most) {
        if (place < 0 || place > most) {
            throw new IndexOutOfBoundsException("no place that may be told");
        }
    }

    private static void needPiece(int kind, int load) {
        needWithin(kind, 0, MOST_KIND);
        needWithin(load, 0, MOST_LOAD);
    }

    /** Of the siding no gap may be told, as none may lie there. */
    private static void needKindOf(int track, int kind) {
        needWithin(kind, track == SIDING ? 1 : 0, MOST_KIND);
    }

    private void needRoom(int track, int many) {
        if (trackOf(track).size() + many > TRACK_ROOM) {
            throw new IllegalStateException("the track has no room");
        }
    }

    private void needWalk() {
        if (!sidingWalk.isOn) {
            throw new IllegalStateException("there is no walk");
        }
    }

    private void needSomewhere(int walker) {
        if (walkerOf(walker).state == NOWHERE) {
            throw new IllegalStateException("the walker is nowhere");
        }
    }

    // ---- pieces, tracks and slips as numbers

    private static int codeOf(int kind, int load) {
        return kind == GAP ? 0 : 100 * kind + load;
    }

    private static int kindOf(int code) {
        return code / 100;
    }

    private static int loadOf(int code) {
        return code % 100;
    }

    private static int slipOf(int track, boolean isBack, boolean isPut, int code) {
        return 1000 * (4 * track + (isBack ? 2 : 0) + (isPut ? 1 : 0)) + code;
    }

    private static int slipTrack(int number) {
        return number / 4000;
    }

    private static boolean slipIsBack(int number) {
        return number / 2000 % 2 == 1;
    }

    private static boolean slipIsPut(int number) {
        return number / 1000 % 2 == 1;
    }

    private static int slipCode(int number) {
        return number % 1000;
    }

    private static int oneIf(boolean isSo) {
        return isSo ? 1 : 0;
    }

    private Row trackOf(int track) {
        return track == SIDING ? siding : line;
    }

    private Walker walkerOf(int walker) {
        return walker == 0 ? walkerZero : walkerOne;
    }

    // ---- steps

    private boolean bringPiece(int track, boolean isBack, int kind, int load) {
        needTrack(track);
        needPiece(kind, load);
        needRoom(track, 1);
        if (track == SIDING && kind == GAP) {
            return false;
        }
        stepOn(track, isBack, codeOf(kind, load));
        return true;
    }

    private int fetchPiece(int track, boolean isBack, int ifEmpty) {
        return trackOf(track).isEmpty() ? ifEmpty : stepOff(track, isBack);
    }

    private void stepOn(int track, boolean isBack, int code) {
        Row row = trackOf(track);
        row.enter(isBack ? row.size() : 0, code);
        laySlip(slipOf(track, isBack, true, code));
        disturb(track);
    }

    private int stepOff(int track, boolean isBack) {
        Row row = trackOf(track);
        int code = row.leave(row.endPlace(isBack));
        laySlip(slipOf(track, isBack, false, code));
        disturb(track);
        return code;
    }

    private void laySlip(int number) {
        if (slips.isFull()) {
            slips.leave(0);
        }
        slips.enterLast(number);
    }

    // ---- what follows when pieces are put, taken off or replaced

    private void disturb(int track) {
        if (track == SIDING) {
            sidingWalk.end();
        } else {
            walkerZero.growStale();
            walkerOne.growStale();
        }
    }

    private void tearFor(int track) {
        slips.empty();
        disturb(track);
    }

    private void tearIfAny(int track, int many) {
        if (many > 0) {
            tearFor(track);
        }
    }

    /** The walker who changed the line himself stays fresh. */
    private void tearForWalker(int walker) {
        slips.empty();
        walkerOf(1 - walker).growStale();
    }

    /** A replaced piece makes no walker stale. */
    private void layAnew(int place, int code) {
        line.overwrite(place, code);
        slips.empty();
    }

    // ---- moves

    private static int orderTrack(int what) {
        return what / 4;
    }

    private static boolean orderIsFromBack(int what) {
        return what / 2 % 2 == 1;
    }

    private static boolean orderIsToBack(int what) {
        return what % 2 == 1;
    }

    private boolean canMove(int what) {
        int from = orderTrack(what);
        int to = 1 - from;
        if (trackOf(from).isEmpty() || trackOf(to).isFull()) {
            return false;
        }
        return to == LINE || kindOf(codeAtEnd(from, orderIsFromBack(what))) != GAP;
    }

    private void move(int what) {
        int from = orderTrack(what);
        int code = stepOff(from, orderIsFromBack(what));
        stepOn(1 - from, orderIsToBack(what), code);
    }

    // ---- what is told of tracks, walkers and the yard

    /** The code at an end; 0 of an empty track. */
    private int codeAtEnd(int track, boolean isBack) {
        Row row = trackOf(track);
        return row.read(row.endPlace(isBack));
    }

    private int atEnd(int track, int way) {
        if (trackOf(track).isEmpty()) {
            return way == 0 || way == 1 || way == 4 ? REFUSED : 0;
        }
        return codeAtEnd(track, way == 1 || way == 3);
    }

    private int factOfTrack(int track, int what) {
        Row row = trackOf(track);
        switch (what) {
            case 0:
                return row.size();
            case 1:
                return oneIf(row.isEmpty());
            case 2:
                return sumOfLoads(row);
            default:
                return sealOf(row);
        }
    }

    private static int sumOfLoads(Row row) {
        int sum = 0;
        for (int place = 0; place < row.size(); place++) {
            sum += loadOf(row.read(place));
        }
        return sum;
    }

    private static int sealOf(Row row) {
        int seal = 1;
        for (int place = 0; place < row.size(); place++) {
            seal = 31 * seal + kindOf(row.read(place));
        }
        return seal;
    }

    private int ofWalker(int walker, int what) {
        Walker own = walkerOf(walker);
        switch (what) {
            case 0:
                return own.state;
            case 1:
                return own.cleft;
            case 2:
                return own.cleft - 1;
            case 3:
                return oneIf(own.cleft < line.size());
            default:
                return oneIf(own.cleft > 0);
        }
    }

    private int factOfYard(int what) {
        switch (what) {
            case 0:
                return orders.size();
            case 1:
                return orders.isEmpty() ? NONE : orders.read(0);
            case 2:
                return orders.isEmpty() ? NONE : orders.read(orders.endPlace(true));
            case 3:
                return slips.size();
            case 4:
                return slips.isEmpty() ? NONE : slips.read(slips.endPlace(true));
            case 5:
                return wayOfWalk();
            case 6:
                return oneIf(sidingWalk.hasNext(siding.size()));
            default:
                return knocks;
        }
    }

    private int wayOfWalk() {
        if (!sidingWalk.isOn) {
            return 0;
        }
        return sidingWalk.isFromBack ? 2 : 1;
    }

    private static boolean isLikeOneOf(Row row, int code) {
        return row.placeOfKind(kindOf(code), false) != NONE;
    }

    private boolean isSameAllAlong() {
        if (siding.size() != line.size()) {
            return false;
        }
        for (int place = 0; place < line.size(); place++) {
            if (kindOf(siding.read(place)) != kindOf(line.read(place))) {
                return false;
            }
        }
        return true;
    }

    private boolean isSidingAmongLine() {
        for (int place = 0; place < siding.size(); place++) {
            if (!isLikeOneOf(line, siding.read(place))) {
                return false;
            }
        }
        return true;
    }

    /** How long text() is, told without writing it, so that a checksum leaves no texts behind. */
    private static int writtenLength(Row row) {
        int length = Math.max(0, row.size() - 1);
        for (int place = 0; place < row.size(); place++) {
            length += kindOf(row.read(place)) == GAP ? 1 : 3;
        }
        return length;
    }

    private int mostOpen(int track) {
        Row row = trackOf(track);
        int most = 0;
        openBrackets.empty();
        for (int place = 0; place < row.size(); place++) {
            int kind = kindOf(row.read(place));
            if (kind % 2 == 1 && kind < 9) {
                openBrackets.enterLast(kind);
                most = Math.max(most, openBrackets.size());
            } else if (kind % 2 == 0 && kind != GAP && !closedBy(kind)) {
                return NONE;
            }
        }
        return openBrackets.isEmpty() ? most : NONE;
    }

    /** Closes the bracket that was opened last; false if that is none of this kind. */
    private boolean closedBy(int kind) {
        return openBrackets.leave(openBrackets.endPlace(true)) == kind - 1;
    }

    // ---- soundness, looked at by another road

    private static boolean isRowSound(Row row) {
        if (row.size() < 0 || row.size() > TRACK_ROOM) {
            return false;
        }
        for (int place = 0; place < row.size(); place++) {
            if (row.readFrom(false, place) != row.readFrom(true, row.size() - 1 - place)) {
                return false;
            }
        }
        return true;
    }

    private boolean isLineFound() {
        for (int place = 0; place < line.size(); place++) {
            int kind = kindOf(line.read(place));
            if (line.placeOfKind(kind, false) > place || line.placeOfKind(kind, true) < place) {
                return false;
            }
        }
        return true;
    }

    private boolean isWalkerSound(Walker walker) {
        return !walker.isFresh() || walker.cleft >= 0 && walker.cleft <= line.size();
    }

    private boolean isUndoneOnPaper() {
        paperSiding.copyFrom(siding);
        paperLine.copyFrom(line);
        for (int place = slips.size() - 1; place >= 0; place--) {
            int number = slips.read(place);
            Row paper = slipTrack(number) == SIDING ? paperSiding : paperLine;
            if (!isUndoneOn(paper, number)) {
                return false;
            }
        }
        return true;
    }

    private static boolean isUndoneOn(Row paper, int number) {
        boolean isBack = slipIsBack(number);
        if (slipIsPut(number)) {
            return !paper.isEmpty() && paper.leave(paper.endPlace(isBack)) == slipCode(number);
        }
        if (paper.isFull()) {
            return false;
        }
        paper.enter(isBack ? paper.size() : 0, slipCode(number));
        return true;
    }

    // ---- the checksum

    private static long with(long d, int v) {
        return d * 31 + v;
    }

    private long withTrack(long before, int track) {
        long d = before;
        for (int what = 0; what <= 3; what++) {
            d = with(d, factOfTrack(track, what));
        }
        for (int way = 0; way <= 5; way++) {
            d = with(d, atEnd(track, way));
        }
        Row row = trackOf(track);
        for (int place = 0; place < row.size(); place++) {
            d = with(d, row.read(place));
        }
        d = with(d, writtenLength(row));
        return with(d, mostOpen(track));
    }

    private long withWalker(long before, int walker) {
        long d = with(before, ofWalker(walker, 0));
        if (walkerOf(walker).isFresh()) {
            for (int what = 1; what <= 4; what++) {
                d = with(d, ofWalker(walker, what));
            }
        }
        return d;
    }
}
