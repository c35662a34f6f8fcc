import java.util.ArrayList;
import java.util.List;

/**
 * The document's words once more, in the plainest form and in another one than the program's:
 * what would be is tried out on a copy, and nothing is added up ahead of its being asked.
 */
final class Model {
    private static final class Kind {
        private final int size;
        private final int step;
        private final List<Integer> offsets = new ArrayList<>();

        private Kind(int size, int step) {
            this.size = size;
            this.step = step;
        }

        private int nextOffset() {
            if (offsets.isEmpty()) {
                return 0;
            }
            int next = offsets.get(offsets.size() - 1) + step;
            return next > 64 % size ? 0 : next;
        }
    }

    private static final class Tray {
        private final int kind;
        private final int offset;
        private final List<Integer> cells = new ArrayList<>();

        private Tray(int kind, int offset) {
            this.kind = kind;
            this.offset = offset;
        }

        private int things() {
            int things = 0;
            for (Integer thing : cells) {
                things += thing == null ? 0 : 1;
            }
            return things;
        }

        private boolean isEmpty() {
            return things() == 0;
        }

        private boolean isFull() {
            return !cells.contains(null);
        }

        private boolean isPartly() {
            return !isEmpty() && !isFull();
        }
    }

    private final List<Kind> kinds = new ArrayList<>();
    private final Tray[] trays = new Tray[20];
    private final List<Integer> kindOfThing = new ArrayList<>();
    private int gone = 0;
    private int moved = 0;

    private Model copy() {
        Model copy = new Model();
        for (Kind kind : kinds) {
            Kind other = new Kind(kind.size, kind.step);
            other.offsets.addAll(kind.offsets);
            copy.kinds.add(other);
        }
        for (int place = 0; place < 20; place++) {
            if (trays[place] != null) {
                copy.trays[place] = new Tray(trays[place].kind, trays[place].offset);
                copy.trays[place].cells.addAll(trays[place].cells);
            }
        }
        copy.kindOfThing.addAll(kindOfThing);
        return copy;
    }

    int kind(int size, int step) {
        if (size < 1 || size > 32 || step < 1 || step > 16) {
            throw new IllegalArgumentException();
        }
        if (kinds.size() == 6) {
            throw new IllegalStateException();
        }
        kinds.add(new Kind(size, step));
        return kinds.size() - 1;
    }

    int put(int kind) {
        needKind(kind);
        if (kindOfThing.size() == 150 || putAnyway(kind) < 0) {
            throw new IllegalStateException();
        }
        return kindOfThing.size() - 1;
    }

    /** The place, or -1; without the limit of things. */
    private int putAnyway(int kind) {
        int place = -1;
        for (int p = 19; p >= 0; p--) {
            boolean partly = isOf(p, kind) && trays[p].isPartly();
            if (partly && (place < 0 || trays[p].things() >= trays[place].things())) {
                place = p;
            }
        }
        for (int p = 0; p < 20 && place < 0; p++) {
            if (isOf(p, kind) && trays[p].isEmpty()) {
                place = p;
            }
        }
        for (int p = 0; p < 20 && place < 0; p++) {
            if (trays[p] == null) {
                place = p;
                trays[p] = newTray(kind);
            }
        }
        if (place >= 0) {
            trays[place].cells.set(trays[place].cells.indexOf(null), kindOfThing.size());
            kindOfThing.add(kind);
        }
        return place;
    }

    private Tray newTray(int kind) {
        Kind k = kinds.get(kind);
        Tray tray = new Tray(kind, k.nextOffset());
        k.offsets.add(tray.offset);
        for (int cell = 0; cell < 64 / k.size; cell++) {
            tray.cells.add(null);
        }
        return tray;
    }

    boolean take(int thing) {
        needThing(thing);
        int place = placeOf(thing);
        if (place < 0) {
            throw new IllegalStateException();
        }
        Tray tray = trays[place];
        tray.cells.set(tray.cells.indexOf(thing), null);
        boolean goes = tray.isEmpty() && about(tray.kind, 3) > 1;
        if (goes) {
            trays[place] = null;
            gone++;
        }
        return goes;
    }

    int sweep() {
        int before = gone;
        for (int place = 0; place < 20; place++) {
            if (trays[place] != null && trays[place].isEmpty()) {
                trays[place] = null;
                gone++;
            }
        }
        return gone - before;
    }

    int pack(int kind) {
        needKind(kind);
        int moves = 0;
        while (true) {
            List<Tray> partly = new ArrayList<>();
            for (int place = 0; place < 20; place++) {
                if (isOf(place, kind) && trays[place].isPartly()) {
                    partly.add(trays[place]);
                }
            }
            if (partly.size() < 2) {
                moved += moves;
                return moves;
            }
            Tray from = partly.get(0);
            Tray to = partly.get(0);
            for (Tray tray : partly) {
                from = tray.things() <= from.things() ? tray : from;
                to = tray.things() > to.things() ? tray : to;
            }
            int last = from.cells.size() - 1;
            while (from.cells.get(last) == null) {
                last--;
            }
            to.cells.set(to.cells.indexOf(null), from.cells.get(last));
            from.cells.set(last, null);
            moves++;
        }
    }

    int told(int thing, int what) {
        needThing(thing);
        needWhat(what, 4);
        if (what == 0) {
            return kindOfThing.get(thing);
        }
        int place = placeOf(thing);
        if (place < 0) {
            return -1;
        }
        int cell = trays[place].cells.indexOf(thing);
        int beginning = trays[place].offset + cell * kinds.get(kindOfThing.get(thing)).size;
        return new int[] {0, place, cell, beginning, 64 * place + beginning}[what];
    }

    int tray(int place, int what) {
        needPlace(place);
        needWhat(what, 4);
        Tray tray = trays[place];
        if (tray == null) {
            return -1;
        }
        int wasted = 64 - kinds.get(tray.kind).size * tray.things();
        return new int[] {tray.kind, tray.offset, tray.cells.size(), tray.things(), wasted}[what];
    }

    int cell(int place, int cell) {
        needPlace(place);
        if (trays[place] == null || cell < 0 || cell >= trays[place].cells.size()) {
            throw new IndexOutOfBoundsException();
        }
        Integer thing = trays[place].cells.get(cell);
        return thing == null ? -1 : thing;
    }

    int about(int kind, int what) {
        needKind(kind);
        needWhat(what, 7);
        Kind k = kinds.get(kind);
        int[] told = {k.size, k.step, 0, 0, 0, 0, 0, k.nextOffset()};
        for (int place = 0; place < 20; place++) {
            if (isOf(place, kind)) {
                told[2]++;
                told[3] += trays[place].isEmpty() ? 1 : 0;
                told[4] += trays[place].isFull() ? 1 : 0;
                told[5] += trays[place].things();
                told[6] += trays[place].cells.size() - trays[place].things();
            }
        }
        return told[what];
    }

    int count(int what) {
        needWhat(what, 6);
        int[] told = {kinds.size(), 0, 0, kindOfThing.size(), 0, gone, moved};
        for (int place = 0; place < 20; place++) {
            if (trays[place] != null) {
                told[1]++;
                told[2] += trays[place].things();
                told[4] += tray(place, 4);
            }
        }
        return told[what];
    }

    int would(int kind) {
        needKind(kind);
        return copy().putAnyway(kind);
    }

    int spares(int kind) {
        needKind(kind);
        Model copy = copy();
        copy.pack(kind);
        return copy.about(kind, 3);
    }

    int room(int kind) {
        needKind(kind);
        Model copy = copy();
        int room = 0;
        while (copy.putAnyway(kind) >= 0) {
            room++;
        }
        return room;
    }

    int worst() {
        int[] wasted = new int[kinds.size()];
        for (int place = 0; place < 20; place++) {
            if (trays[place] != null) {
                wasted[trays[place].kind] += tray(place, 4);
            }
        }
        int worst = -1;
        for (int kind = kinds.size() - 1; kind >= 0; kind--) {
            worst = worst < 0 || wasted[kind] >= wasted[worst] ? kind : worst;
        }
        return worst;
    }

    double mean() {
        return count(1) == 0 ? 0.0 : (double) count(2) / count(1);
    }

    long digest() {
        List<Integer> numbers = new ArrayList<>();
        for (int what = 0; what <= 6; what++) {
            numbers.add(count(what));
        }
        for (int kind = 0; kind < kinds.size(); kind++) {
            for (int what = 0; what <= 7; what++) {
                numbers.add(about(kind, what));
            }
        }
        for (int place = 0; place < 20; place++) {
            for (int what = 0; what <= 4; what++) {
                numbers.add(tray(place, what));
            }
            for (int cell = 0; cell < tray(place, 2); cell++) {
                numbers.add(cell(place, cell));
            }
        }
        long d = 1381;
        for (int number : numbers) {
            d = d * 31 + number;
        }
        return d;
    }

    private boolean isOf(int place, int kind) {
        return trays[place] != null && trays[place].kind == kind;
    }

    private int placeOf(int thing) {
        for (int place = 0; place < 20; place++) {
            if (trays[place] != null && trays[place].cells.contains(thing)) {
                return place;
            }
        }
        return -1;
    }

    private void needKind(int kind) {
        need(kind >= 0 && kind < kinds.size());
    }

    private void needThing(int thing) {
        need(thing >= 0 && thing < kindOfThing.size());
    }

    private void needPlace(int place) {
        need(place >= 0 && place <= 19);
    }

    private void needWhat(int what, int last) {
        need(what >= 0 && what <= last);
    }

    private void need(boolean holds) {
        if (!holds) {
            throw new IndexOutOfBoundsException();
        }
    }
}
