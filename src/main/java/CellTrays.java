/** Trays of equal cells, for things of some kinds. */
public final class CellTrays {
    private static final int WIDTH = 64;
    private static final int PLACES = 20;
    private static final int MOST_KINDS = 6;
    private static final int MOST_SIZE = 32;
    private static final int MOST_STEP = 16;
    private static final int MOST_THINGS = 150;
    private static final int TOLD_LAST = 4;
    private static final int TRAY_LAST = 4;
    private static final int ABOUT_LAST = 7;
    private static final int COUNT_LAST = 6;
    private static final int NONE = -1;
    private static final long DIGEST_START = 1381;
    private static final long DIGEST_FACTOR = 31;

    private int kindCount;
    private final int[] kindSize = new int[MOST_KINDS];
    private final int[] kindStep = new int[MOST_KINDS];
    // Cells and what is left by them are kept, so that only kind() divides, behind its test of the size.
    private final int[] kindCells = new int[MOST_KINDS];
    private final int[] kindRest = new int[MOST_KINDS];
    private final int[] kindNextOffset = new int[MOST_KINDS];

    private final int[] trayKind = new int[PLACES];
    private final int[] trayOffset = new int[PLACES];
    private final int[] trayThings = new int[PLACES];
    // The place p has the row from p * WIDTH on: a size of 1 needs all of it, others its beginning.
    private final int[] cellThing = new int[PLACES * WIDTH];

    private int thingCount;
    private final int[] thingKind = new int[MOST_THINGS];
    private final int[] thingPlace = new int[MOST_THINGS];
    private final int[] thingCell = new int[MOST_THINGS];

    private int goneCount;
    private int movedCount;

    public CellTrays() {
        for (int place = 0; place < PLACES; place++) {
            trayKind[place] = NONE;
        }
        for (int at = 0; at < PLACES * WIDTH; at++) {
            cellThing[at] = NONE;
        }
    }

    // ---- kinds and things

    public int kind(int size, int step) throws IllegalArgumentException, IllegalStateException {
        if (size < 1 || size > MOST_SIZE) {
            throw new IllegalArgumentException("the size is not 1 to 32");
        }
        if (step < 1 || step > MOST_STEP) {
            throw new IllegalArgumentException("the step is not 1 to 16");
        }
        if (kindCount >= MOST_KINDS) {
            throw new IllegalStateException("there are 6 kinds");
        }
        int kind = kindCount;
        kindSize[kind] = size;
        kindStep[kind] = step;
        kindCells[kind] = WIDTH / size;
        kindRest[kind] = WIDTH % size;
        kindCount++;
        return kind;
    }

    public int put(int kind) throws IndexOutOfBoundsException, IllegalStateException {
        requireKind(kind);
        if (thingCount >= MOST_THINGS) {
            throw new IllegalStateException("there were 150 things");
        }
        int place = placeFor(kind);
        if (place == NONE) {
            throw new IllegalStateException("there is no room");
        }
        if (trayKind[place] == NONE) {
            addTray(place, kind);
        }
        int thing = thingCount;
        thingKind[thing] = kind;
        thingCount++;
        layIn(thing, place);
        return thing;
    }

    public boolean take(int thing) throws IndexOutOfBoundsException, IllegalStateException {
        requireThing(thing);
        int place = thingPlace[thing];
        if (place == NONE) {
            throw new IllegalStateException("the thing was taken out");
        }
        // Asked before the thing leaves: afterwards its own tray would count as an empty one.
        boolean hasEmptyOne = firstEmpty(thingKind[thing]) != NONE;
        liftOut(thing);
        boolean goes = trayThings[place] == 0 && hasEmptyOne;
        if (goes) {
            dropTray(place);
        }
        return goes;
    }

    public int sweep() {
        int swept = 0;
        for (int place = 0; place < PLACES; place++) {
            if (trayKind[place] != NONE && trayThings[place] == 0) {
                dropTray(place);
                swept++;
            }
        }
        return swept;
    }

    public int pack(int kind) throws IndexOutOfBoundsException {
        requireKind(kind);
        int moves = 0;
        // No thing moves twice: what gives stays the one with the fewest, till it is empty,
        // and what gets stays the one with the most, till it is full.
        while (moves < MOST_THINGS) {
            int from = leastPartly(kind);
            int to = mostPartly(kind);
            // The same tray, or none, means that fewer than two are partly taken.
            if (from == NONE || to == NONE || from == to) {
                break;
            }
            moveLast(from, to);
            moves++;
        }
        movedCount += moves;
        return moves;
    }

    // ---- what is there

    public int told(int thing, int what) throws IndexOutOfBoundsException {
        requireThing(thing);
        requireWhat(what, TOLD_LAST);
        if (what == 0) {
            return thingKind[thing];
        }
        int place = thingPlace[thing];
        if (place == NONE) {
            return NONE;
        }
        int cell = thingCell[thing];
        int beginning = trayOffset[place] + cell * kindSize[thingKind[thing]];
        switch (what) {
            case 1:
                return place;
            case 2:
                return cell;
            case 3:
                return beginning;
            default:
                return WIDTH * place + beginning;
        }
    }

    public int tray(int place, int what) throws IndexOutOfBoundsException {
        requirePlace(place);
        requireWhat(what, TRAY_LAST);
        int kind = trayKind[place];
        if (kind == NONE) {
            return NONE;
        }
        switch (what) {
            case 0:
                return kind;
            case 1:
                return trayOffset[place];
            case 2:
                return kindCells[kind];
            case 3:
                return trayThings[place];
            default:
                return WIDTH - kindSize[kind] * trayThings[place];
        }
    }

    public int cell(int place, int cell) throws IndexOutOfBoundsException {
        requirePlace(place);
        if (cell < 0 || cell >= cellsAt(place)) {
            throw new IndexOutOfBoundsException("there is no such cell");
        }
        return cellThing[place * WIDTH + cell];
    }

    public int about(int kind, int what) throws IndexOutOfBoundsException {
        requireKind(kind);
        requireWhat(what, ABOUT_LAST);
        switch (what) {
            case 0:
                return kindSize[kind];
            case 1:
                return kindStep[kind];
            case 2:
                return traysOf(kind);
            case 3:
                return traysHolding(kind, 0);
            case 4:
                return traysHolding(kind, kindCells[kind]);
            case 5:
                return thingsOf(kind);
            case 6:
                return freeCellsOf(kind);
            default:
                return kindNextOffset[kind];
        }
    }

    public int count(int what) throws IndexOutOfBoundsException {
        requireWhat(what, COUNT_LAST);
        switch (what) {
            case 0:
                return kindCount;
            case 1:
                return PLACES - traysOf(NONE);
            case 2:
                return thingsThere();
            case 3:
                return thingCount;
            case 4:
                return wastedInAll();
            case 5:
                return goneCount;
            default:
                return movedCount;
        }
    }

    // ---- what would be

    public int would(int kind) throws IndexOutOfBoundsException {
        requireKind(kind);
        return placeFor(kind);
    }

    public int spares(int kind) throws IndexOutOfBoundsException {
        requireKind(kind);
        // pack() ends with at most one partly taken tray, so in the fewest trays that can hold all.
        int left = thingsOf(kind);
        int spare = 0;
        for (int place = 0; place < PLACES; place++) {
            if (trayKind[place] == kind) {
                if (left <= 0) {
                    spare++;
                }
                left -= kindCells[kind];
            }
        }
        return spare;
    }

    public int room(int kind) throws IndexOutOfBoundsException {
        requireKind(kind);
        return freeCellsOf(kind) + traysOf(NONE) * kindCells[kind];
    }

    public int worst() {
        int worst = NONE;
        int most = NONE;
        for (int kind = 0; kind < kindCount; kind++) {
            int wasted = wastedBy(kind);
            if (wasted > most) {
                most = wasted;
                worst = kind;
            }
        }
        return worst;
    }

    public double mean() {
        int trays = PLACES - traysOf(NONE);
        if (trays == 0) {
            return 0;
        }
        return (double) thingsThere() / trays;
    }

    public long digest() {
        long d = DIGEST_START;
        for (int what = 0; what <= COUNT_LAST; what++) {
            d = d * DIGEST_FACTOR + count(what);
        }
        for (int kind = 0; kind < kindCount; kind++) {
            for (int what = 0; what <= ABOUT_LAST; what++) {
                d = d * DIGEST_FACTOR + about(kind, what);
            }
        }
        for (int place = 0; place < PLACES; place++) {
            d = digestPlace(d, place);
        }
        return d;
    }

    private long digestPlace(long before, int place) {
        long d = before;
        for (int what = 0; what <= TRAY_LAST; what++) {
            d = d * DIGEST_FACTOR + tray(place, what);
        }
        int cells = cellsAt(place);
        for (int cell = 0; cell < cells; cell++) {
            d = d * DIGEST_FACTOR + cellThing[place * WIDTH + cell];
        }
        return d;
    }

    // ---- arguments

    private void requireKind(int kind) {
        if (kind < 0 || kind >= kindCount) {
            throw new IndexOutOfBoundsException("there is no such kind");
        }
    }

    private void requireThing(int thing) {
        if (thing < 0 || thing >= thingCount) {
            throw new IndexOutOfBoundsException("there is no such thing");
        }
    }

    private void requirePlace(int place) {
        if (place < 0 || place >= PLACES) {
            throw new IndexOutOfBoundsException("the place is not 0 to 19");
        }
    }

    private void requireWhat(int what, int last) {
        if (what < 0 || what > last) {
            throw new IndexOutOfBoundsException("there is no such number to tell");
        }
    }

    // ---- choosing a tray

    private int placeFor(int kind) {
        int place = mostPartly(kind);
        if (place == NONE) {
            place = firstEmpty(kind);
        }
        if (place == NONE) {
            place = firstBare();
        }
        return place;
    }

    private int mostPartly(int kind) {
        int best = NONE;
        int most = 0;
        for (int place = 0; place < PLACES; place++) {
            if (isPartly(place, kind) && trayThings[place] > most) {
                most = trayThings[place];
                best = place;
            }
        }
        return best;
    }

    private int leastPartly(int kind) {
        int best = NONE;
        int least = WIDTH;
        for (int place = 0; place < PLACES; place++) {
            if (isPartly(place, kind) && trayThings[place] <= least) {
                least = trayThings[place];
                best = place;
            }
        }
        return best;
    }

    private boolean isPartly(int place, int kind) {
        return trayKind[place] == kind && trayThings[place] > 0 && trayThings[place] < kindCells[kind];
    }

    private int firstEmpty(int kind) {
        for (int place = 0; place < PLACES; place++) {
            if (trayKind[place] == kind && trayThings[place] == 0) {
                return place;
            }
        }
        return NONE;
    }

    private int firstBare() {
        for (int place = 0; place < PLACES; place++) {
            if (trayKind[place] == NONE) {
                return place;
            }
        }
        return NONE;
    }

    // ---- changing trays and cells

    private void addTray(int place, int kind) {
        trayKind[place] = kind;
        trayOffset[place] = kindNextOffset[kind];
        int next = kindNextOffset[kind] + kindStep[kind];
        kindNextOffset[kind] = next > kindRest[kind] ? 0 : next;
    }

    /** Only for an empty tray: the next one at its place finds its row free and no things counted. */
    private void dropTray(int place) {
        trayKind[place] = NONE;
        goneCount++;
    }

    private void layIn(int thing, int place) {
        int cells = cellsAt(place);
        for (int cell = 0; cell < cells; cell++) {
            if (cellThing[place * WIDTH + cell] == NONE) {
                cellThing[place * WIDTH + cell] = thing;
                trayThings[place]++;
                thingPlace[thing] = place;
                thingCell[thing] = cell;
                return;
            }
        }
    }

    private void liftOut(int thing) {
        int place = thingPlace[thing];
        cellThing[place * WIDTH + thingCell[thing]] = NONE;
        trayThings[place]--;
        thingPlace[thing] = NONE;
    }

    private void moveLast(int from, int to) {
        for (int cell = cellsAt(from) - 1; cell >= 0; cell--) {
            int thing = cellThing[from * WIDTH + cell];
            if (thing != NONE) {
                liftOut(thing);
                layIn(thing, to);
                return;
            }
        }
    }

    // ---- adding up

    private int cellsAt(int place) {
        int kind = trayKind[place];
        return kind == NONE ? 0 : kindCells[kind];
    }

    /** NONE for the kind counts the places without a tray. */
    private int traysOf(int kind) {
        int trays = 0;
        for (int place = 0; place < PLACES; place++) {
            if (trayKind[place] == kind) {
                trays++;
            }
        }
        return trays;
    }

    private int traysHolding(int kind, int things) {
        int trays = 0;
        for (int place = 0; place < PLACES; place++) {
            if (trayKind[place] == kind && trayThings[place] == things) {
                trays++;
            }
        }
        return trays;
    }

    private int thingsOf(int kind) {
        int things = 0;
        for (int place = 0; place < PLACES; place++) {
            if (trayKind[place] == kind) {
                things += trayThings[place];
            }
        }
        return things;
    }

    private int freeCellsOf(int kind) {
        return traysOf(kind) * kindCells[kind] - thingsOf(kind);
    }

    private int wastedBy(int kind) {
        return traysOf(kind) * WIDTH - thingsOf(kind) * kindSize[kind];
    }

    private int thingsThere() {
        int things = 0;
        for (int kind = 0; kind < kindCount; kind++) {
            things += thingsOf(kind);
        }
        return things;
    }

    private int wastedInAll() {
        int wasted = 0;
        for (int kind = 0; kind < kindCount; kind++) {
            wasted += wastedBy(kind);
        }
        return wasted;
    }
}
