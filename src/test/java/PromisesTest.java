/** Each promise by hand: ordinary inputs, the edges that the document names, and wrong inputs. */
public final class PromisesTest {
    private static final int LOW = Integer.MIN_VALUE;
    private static final int HIGH = Integer.MAX_VALUE;

    public static void main(String[] args) {
        newObject();
        kind();
        kindFails();
        offsetsOfNewTrays();
        putChoosesTray();
        putFails();
        take();
        takeFails();
        sweep();
        pack();
        packBreaksTies();
        packFindsFewestAndMost();
        packFails();
        told();
        tray();
        cell();
        about();
        count();
        would();
        spares();
        room();
        worst();
        mean();
        digest();
        failuresChangeNothing();
        Check.end();
    }

    // ---- promise 1

    private static void newObject() {
        CellTrays x = new CellTrays();
        for (int place = 0; place < 20; place++) {
            for (int what = 0; what <= 4; what++) {
                int p = place;
                int w = what;
                Check.due("1: tray(" + p + ", " + w + ")", -1, () -> x.tray(p, w));
            }
        }
        for (int what = 0; what <= 6; what++) {
            int w = what;
            Check.due("1: count(" + w + ")", 0, () -> x.count(w));
        }
        CellTrays other = new CellTrays();
        x.kind(8, 1);
        x.put(0);
        Check.due("1: another object stays as it was", 0, () -> other.count(1));
    }

    // ---- promise 2

    private static void kind() {
        CellTrays x = new CellTrays();
        Check.due("2: kind(1, 1)", 0, () -> x.kind(1, 1));
        Check.due("2: kind(32, 16)", 1, () -> x.kind(32, 16));
        Check.due("2: kind(1, 16)", 2, () -> x.kind(1, 16));
        Check.due("2: kind(32, 1)", 3, () -> x.kind(32, 1));
        Check.due("2: the same once more", 4, () -> x.kind(32, 1));
        Check.due("2: kind(7, 3)", 5, () -> x.kind(7, 3));
        Check.fails("2: a seventh", Check.STATE, () -> x.kind(7, 3));
        Check.fails("2: a seventh of a wrong size", Check.ILLEGAL, () -> x.kind(0, 3));
        Check.fails("2: a seventh of a wrong step", Check.ILLEGAL, () -> x.kind(7, 17));
        Check.due("2: kinds", 6, () -> x.count(0));
        Check.due("2: no trays by that", 0, () -> x.count(1));
    }

    private static void kindFails() {
        CellTrays x = new CellTrays();
        for (int size : new int[] {0, 33, -1, 64, LOW, HIGH}) {
            Check.fails("2: kind(" + size + ", 1)", Check.ILLEGAL, () -> x.kind(size, 1));
        }
        for (int step : new int[] {0, 17, -1, LOW, HIGH}) {
            Check.fails("2: kind(1, " + step + ")", Check.ILLEGAL, () -> x.kind(1, step));
        }
        Check.due("2: kinds", 0, () -> x.count(0));
    }

    // ---- promise 3

    private static void offsetsOfNewTrays() {
        CellTrays x = new CellTrays();
        x.kind(24, 5);
        x.kind(25, 7);
        x.kind(32, 1);
        Trays.putMany(x, 0, 8);
        int[] due = {0, 5, 10, 15};
        for (int place = 0; place < 4; place++) {
            int p = place;
            Check.due("3: offset at " + p, due[p], () -> x.tray(p, 1));
        }
        Check.due("3: 16 is just what is left", 16, () -> offsetAfter(24, 8, 2));
        Check.due("3: then 24 is too great", 0, () -> offsetAfter(24, 8, 3));
        Check.due("3: it begins again", 8, () -> offsetAfter(24, 8, 4));
        Check.due("3: nothing is left of 32", 0, () -> offsetAfter(32, 1, 1));
        Check.due("3: a step above what is left", 0, () -> offsetAfter(10, 5, 1));
        x.put(1);
        Check.due("3: another kind begins at 0", 0, () -> x.tray(4, 1));
        Trays.takeAll(x, 0, 1, 2, 3);
        Check.due("3: trays that are gone count", 0, () -> x.about(0, 7));
        x.sweep();
        Trays.putMany(x, 0, 2);
        Check.due("3: the gone one's place", 0, () -> x.told(9, 1));
        Trays.putMany(x, 0, 1);
        Check.due("3: the next offset there", 5, () -> x.tray(1, 1));
    }

    private static int offsetAfter(int size, int step, int trays) {
        CellTrays x = new CellTrays();
        x.kind(size, step);
        Trays.putMany(x, 0, trays * (64 / size) + 1);
        return x.tray(trays, 1);
    }

    private static void putChoosesTray() {
        CellTrays x = Trays.withKinds(16, 16);
        Trays.putMany(x, 0, 12);
        Check.due("3: three full trays", "4 4 4", () -> Trays.things(x, 3));
        Trays.takeAll(x, 1, 2, 6, 9, 11);
        Check.due("3: 2 3 2", "2 3 2", () -> Trays.things(x, 3));
        Check.due("3: a number", 12, () -> x.put(0));
        Check.due("3: into the one with the most", "2 4 2", () -> Trays.things(x, 3));
        Check.due("3: its free cell", 2, () -> x.told(12, 2));
        x.put(0);
        Check.due("3: of several the first", "3 4 2", () -> Trays.things(x, 3));
        Check.due("3: its first free cell", "0 13 -1 3", () -> Trays.cells(x, 0));
        Trays.takeAll(x, 0, 13, 3);
        Check.due("3: an empty one, a partly taken one", "0 4 2", () -> Trays.things(x, 3));
        x.put(0);
        Check.due("3: partly taken before empty", "0 4 3", () -> Trays.things(x, 3));
        x.put(1);
        Check.due("3: another kind's new tray", 3, () -> x.told(15, 1));
        x.put(0);
        x.put(0);
        Check.due("3: empty before new", 0, () -> x.told(17, 1));
        Trays.putMany(x, 0, 4);
        Check.due("3: new at the first bare place", 4, () -> x.told(21, 1));
        Check.due("3: things", 22, () -> x.count(3));
    }

    private static void putFails() {
        CellTrays x = Trays.withKinds(32, 1);
        for (int kind : new int[] {2, -1, 6, LOW, HIGH}) {
            Check.fails("3: put(" + kind + ")", Check.INDEX, () -> x.put(kind));
        }
        Trays.putMany(x, 0, 40);
        Check.fails("3: no room", Check.STATE, () -> x.put(0));
        Check.fails("3: no room for another kind", Check.STATE, () -> x.put(1));
        Check.fails("3: no such kind comes first", Check.INDEX, () -> x.put(2));
        x.take(17);
        Check.fails("3: still none for another kind", Check.STATE, () -> x.put(1));
        Check.due("3: room again", 40, () -> x.put(0));
        Check.due("3: in the free cell", 17, () -> x.told(40, 1) * 2 + x.told(40, 2));

        CellTrays y = Trays.withKinds(1);
        Trays.putMany(y, 0, 149);
        Check.due("3: the 150th", 149, () -> y.put(0));
        y.take(0);
        Check.fails("3: the 151st", Check.STATE, () -> y.put(0));
        Check.fails("3: no such kind, and 150", Check.INDEX, () -> y.put(1));
        Check.due("3: 149 are there", 149, () -> y.count(2));
    }

    // ---- promise 4

    private static void take() {
        CellTrays x = Trays.withKinds(32, 32);
        Trays.putMany(x, 0, 4);
        Check.due("4: not the last of its tray", false, () -> x.take(0));
        Check.due("4: the first empty one stays", false, () -> x.take(1));
        Check.due("4: it is empty", 0, () -> x.tray(0, 3));
        Check.due("4: not yet empty", false, () -> x.take(3));
        Check.due("4: the second empty one goes", true, () -> x.take(2));
        Check.due("4: there is none", -1, () -> x.tray(1, 0));
        Check.due("4: the other one stays", 0, () -> x.tray(0, 0));
        Check.due("4: one went", 1, () -> x.count(5));
        x.put(1);
        Check.due("4: the place is used again", 1, () -> x.tray(1, 0));
        Check.due("4: another kind's empty one doesn't count", false, () -> x.take(4));
        Check.due("4: still one went", 1, () -> x.count(5));

        CellTrays y = Trays.withKinds(32);
        Trays.putMany(y, 0, 4);
        Trays.takeAll(y, 2, 3);
        Check.due("4: its own goes, though it is at the smaller place", false, () -> y.take(1));
        Check.due("4: its own goes", true, () -> y.take(0));
        Check.due("4: none at 0", "-1 0", () -> Trays.things(y, 2));
    }

    private static void takeFails() {
        CellTrays x = Trays.withKinds(20);
        Check.fails("4: take(0) without things", Check.INDEX, () -> x.take(0));
        Trays.putMany(x, 0, 2);
        for (int thing : new int[] {2, -1, 150, LOW, HIGH}) {
            Check.fails("4: take(" + thing + ")", Check.INDEX, () -> x.take(thing));
        }
        x.take(1);
        Check.fails("4: taken out", Check.STATE, () -> x.take(1));
        x.put(0);
        Check.fails("4: taken out, its cell in use", Check.STATE, () -> x.take(1));
        Check.due("4: two are there", 2, () -> x.count(2));
    }

    // ---- promise 5

    private static void sweep() {
        CellTrays x = Trays.withKinds(32, 16);
        Check.due("5: without trays", 0, x::sweep);
        Trays.putMany(x, 0, 3);
        x.put(1);
        Check.due("5: without empty ones", 0, x::sweep);
        Trays.takeAll(x, 0, 1, 3);
        Check.due("5: of all kinds", 2, x::sweep);
        Check.due("5: which", "-1 1 -1", () -> Trays.things(x, 3));
        Check.due("5: two went", 2, () -> x.count(5));
        Check.due("5: again", 0, x::sweep);
        Check.due("5: a taken thing", -1, () -> x.told(0, 1));
        Check.due("5: the kind goes on", 0, () -> x.about(1, 2));
    }

    // ---- promise 6

    private static void pack() {
        CellTrays x = Trays.withKinds(16, 16);
        Check.due("6: without trays", 0, () -> x.pack(0));
        Trays.putMany(x, 0, 12);
        Check.due("6: full ones alone", 0, () -> x.pack(0));
        Trays.takeAll(x, 1, 6, 7, 8, 10);
        Check.due("6: 3 2 2", "3 2 2", () -> Trays.things(x, 3));
        Check.due("6: two thirds to one", 2, () -> x.pack(0));
        Check.due("6: 4 3 0", "4 3 0", () -> Trays.things(x, 3));
        Check.due("6: the last taken cell first", "0 11 2 3", () -> Trays.cells(x, 0));
        Check.due("6: into the first free cell", "4 5 9 -1", () -> Trays.cells(x, 1));
        Check.due("6: the empty one stays", 0, () -> x.tray(2, 0));
        Check.due("6: none went", 0, () -> x.count(5));
        Check.due("6: a moved thing's place", 0, () -> x.told(11, 1));
        Check.due("6: a moved thing's cell", 1, () -> x.told(11, 2));
        Check.due("6: one partly taken alone", 0, () -> x.pack(0));
        Check.due("6: two were moved", 2, () -> x.count(6));
        Trays.putMany(x, 1, 5);
        x.take(12);
        Check.due("6: another kind alone", 1, () -> x.pack(1));
        Check.due("6: three were moved", 3, () -> x.count(6));
    }

    private static void packBreaksTies() {
        CellTrays x = Trays.withKinds(16);
        Trays.putMany(x, 0, 12);
        Trays.takeAll(x, 0, 1, 4, 5, 8, 9);
        Check.due("6: 2 2 2", "2 2 2", () -> Trays.things(x, 3));
        Check.due("6: two moves", 2, () -> x.pack(0));
        Check.due("6: from the last to the first", "4 2 0", () -> Trays.things(x, 3));
        Check.due("6: turned round", "11 10 2 3", () -> Trays.cells(x, 0));

        CellTrays y = Trays.withKinds(8);
        Trays.putMany(y, 0, 24);
        Trays.takeAll(y, 1, 9, 10, 11, 12, 13, 14, 17, 18, 19, 20, 21, 22);
        Check.due("6: 7 2 2", "7 2 2", () -> Trays.things(y, 3));
        Check.due("6: chosen anew when one is full", 2, () -> y.pack(0));
        Check.due("6: 8 3 0", "8 3 0", () -> Trays.things(y, 3));
        Check.due("6: the first two", "0 23 2 3 4 5 6 7", () -> Trays.cells(y, 0));
        Check.due("6: then the next", "8 16 -1 -1 -1 -1 -1 15", () -> Trays.cells(y, 1));
    }

    private static void packFindsFewestAndMost() {
        CellTrays x = Trays.withKinds(16);
        Trays.putMany(x, 0, 12);
        Trays.takeAll(x, 0, 1, 2, 5, 8, 9);
        Check.due("6: 1 3 2", "1 3 2", () -> Trays.things(x, 3));
        Check.due("6: one move", 1, () -> x.pack(0));
        Check.due("6: the fewest at the first place", "0 4 2", () -> Trays.things(x, 3));
        Check.due("6: its thing in the free cell", "4 3 6 7", () -> Trays.cells(x, 1));

        CellTrays y = Trays.withKinds(16);
        Trays.putMany(y, 0, 12);
        Trays.takeAll(y, 0, 1, 5, 6, 7, 11);
        Check.due("6: 2 1 3", "2 1 3", () -> Trays.things(y, 3));
        Check.due("6: one move", 1, () -> y.pack(0));
        Check.due("6: the fewest in the middle", "2 0 4", () -> Trays.things(y, 3));
    }

    private static void packFails() {
        CellTrays x = Trays.withKinds(16);
        for (int kind : new int[] {1, -1, 6, LOW, HIGH}) {
            Check.fails("6: pack(" + kind + ")", Check.INDEX, () -> x.pack(kind));
        }
    }

    // ---- promise 7

    private static void told() {
        CellTrays x = new CellTrays();
        x.kind(9, 1);
        x.kind(24, 5);
        x.put(0);
        Trays.putMany(x, 1, 4);
        int[] due = {1, 2, 1, 29, 157};
        for (int what = 0; what <= 4; what++) {
            int w = what;
            Check.due("7: told(4, " + w + ")", due[w], () -> x.told(4, w));
        }
        Check.due("7: told(0, 4)", 0, () -> x.told(0, 4));
        x.take(4);
        Check.due("7: taken out, its kind", 1, () -> x.told(4, 0));
        for (int what = 1; what <= 4; what++) {
            int w = what;
            Check.due("7: taken out, told(4, " + w + ")", -1, () -> x.told(4, w));
        }
        for (int thing : new int[] {5, -1, 150, LOW, HIGH}) {
            Check.fails("7: told(" + thing + ", 0)", Check.INDEX, () -> x.told(thing, 0));
        }
        for (int what : new int[] {5, -1, LOW, HIGH}) {
            Check.fails("7: told(0, " + what + ")", Check.INDEX, () -> x.told(0, what));
            Check.fails("7: taken out, told(4, " + what + ")", Check.INDEX, () -> x.told(4, what));
        }
    }

    // ---- promise 8

    private static void tray() {
        CellTrays x = new CellTrays();
        x.kind(9, 1);
        x.kind(24, 5);
        Trays.putMany(x, 1, 3);
        int[] due = {1, 5, 2, 1, 40};
        for (int what = 0; what <= 4; what++) {
            int w = what;
            Check.due("8: tray(1, " + w + ")", due[w], () -> x.tray(1, w));
            Check.due("8: tray(19, " + w + ")", -1, () -> x.tray(19, w));
        }
        Check.due("8: a full one's waste", 16, () -> x.tray(0, 4));
        x.take(2);
        Check.due("8: an empty one's waste", 64, () -> x.tray(1, 4));
        for (int place : new int[] {20, -1, LOW, HIGH}) {
            Check.fails("8: tray(" + place + ", 0)", Check.INDEX, () -> x.tray(place, 0));
        }
        for (int what : new int[] {5, -1, LOW, HIGH}) {
            Check.fails("8: tray(0, " + what + ")", Check.INDEX, () -> x.tray(0, what));
            Check.fails("8: tray(19, " + what + ")", Check.INDEX, () -> x.tray(19, what));
        }
    }

    // ---- promise 9

    private static void cell() {
        CellTrays x = Trays.withKinds(1, 20);
        Trays.putMany(x, 1, 3);
        x.put(0);
        x.take(1);
        Check.due("9: the first", 0, () -> x.cell(0, 0));
        Check.due("9: a free one", -1, () -> x.cell(0, 1));
        Check.due("9: the last", 2, () -> x.cell(0, 2));
        Check.fails("9: one too many", Check.INDEX, () -> x.cell(0, 3));
        Check.due("9: the last of 64", -1, () -> x.cell(1, 63));
        Check.fails("9: the 65th", Check.INDEX, () -> x.cell(1, 64));
        Check.fails("9: without a tray", Check.INDEX, () -> x.cell(2, 0));
        for (int wrong : new int[] {20, -1, LOW, HIGH}) {
            Check.fails("9: cell(" + wrong + ", 0)", Check.INDEX, () -> x.cell(wrong, 0));
            Check.fails("9: cell(0, " + wrong + ")", Check.INDEX, () -> x.cell(0, wrong));
        }
    }

    // ---- promise 10

    private static void about() {
        CellTrays x = new CellTrays();
        x.kind(20, 3);
        x.kind(12, 2);
        int[] unused = {12, 2, 0, 0, 0, 0, 0, 0};
        for (int what = 0; what <= 7; what++) {
            int w = what;
            Check.due("10: unused, about(1, " + w + ")", unused[w], () -> x.about(1, w));
        }
        Trays.putMany(x, 0, 8);
        x.put(1);
        Trays.takeAll(x, 3, 4, 5);
        int[] due = {20, 3, 3, 1, 1, 5, 4, 3};
        for (int what = 0; what <= 7; what++) {
            int w = what;
            Check.due("10: about(0, " + w + ")", due[w], () -> x.about(0, w));
        }
        Check.due("10: about(1, 5)", 1, () -> x.about(1, 5));
        Check.due("10: about(1, 7)", 2, () -> x.about(1, 7));
        for (int kind : new int[] {2, -1, 6, LOW, HIGH}) {
            Check.fails("10: about(" + kind + ", 0)", Check.INDEX, () -> x.about(kind, 0));
        }
        for (int what : new int[] {8, -1, LOW, HIGH}) {
            Check.fails("10: about(0, " + what + ")", Check.INDEX, () -> x.about(0, what));
        }
    }

    // ---- promise 11

    private static void count() {
        CellTrays x = Trays.withKinds(16, 20, 5);
        Trays.putMany(x, 0, 9);
        Trays.putMany(x, 1, 2);
        Trays.takeAll(x, 0, 1, 4);
        x.pack(0);
        x.sweep();
        int[] due = {3, 3, 8, 11, 192 - 6 * 16 - 2 * 20, 1, 1};
        for (int what = 0; what <= 6; what++) {
            int w = what;
            Check.due("11: count(" + w + ")", due[w], () -> x.count(w));
        }
        for (int what : new int[] {7, -1, LOW, HIGH}) {
            Check.fails("11: count(" + what + ")", Check.INDEX, () -> x.count(what));
        }
    }

    // ---- promise 12

    private static void would() {
        CellTrays x = Trays.withKinds(32, 16, 1);
        Check.due("12: a new one", 0, () -> x.would(0));
        Check.due("12: nothing is changed", 0, () -> x.count(1));
        Trays.putMany(x, 0, 4);
        Trays.takeAll(x, 0, 1);
        Check.due("12: an empty one", 0, () -> x.would(0));
        x.take(2);
        Check.due("12: a partly taken one before it", 1, () -> x.would(0));
        Check.due("12: another kind", 2, () -> x.would(1));
        for (int kind : new int[] {3, -1, 6, LOW, HIGH}) {
            Check.fails("12: would(" + kind + ")", Check.INDEX, () -> x.would(kind));
        }
        CellTrays y = Trays.withKinds(32, 1);
        Trays.putMany(y, 0, 40);
        Check.due("12: no room", -1, () -> y.would(0));
        Check.due("12: none for another", -1, () -> y.would(1));
        CellTrays z = Trays.withKinds(1, 2);
        Trays.putMany(z, 0, 150);
        Check.due("12: however many there were", 2, () -> z.would(0));
        Check.due("12: for another too", 3, () -> z.would(1));
    }

    // ---- promise 13

    private static void spares() {
        CellTrays x = Trays.withKinds(16, 16);
        Check.due("13: without trays", 0, () -> x.spares(0));
        Trays.putMany(x, 0, 12);
        Check.due("13: full ones", 0, () -> x.spares(0));
        Trays.takeAll(x, 0, 1, 4);
        Check.due("13: 2 3 4 in three", 0, () -> x.spares(0));
        x.take(8);
        Check.due("13: 2 3 3 in just two", 1, () -> x.spares(0));
        Trays.takeAll(x, 5, 6, 7);
        Check.due("13: an empty one counts", 1, () -> x.spares(0));
        Trays.takeAll(x, 9);
        Check.due("13: and one by moving", 2, () -> x.spares(0));
        Check.due("13: nothing is changed", "2 0 2", () -> Trays.things(x, 3));
        Check.due("13: nothing is moved", 0, () -> x.count(6));
        Check.due("13: another kind", 0, () -> x.spares(1));
        x.pack(0);
        Check.due("13: as pack does it", 2, () -> x.about(0, 3));
        Trays.takeAll(x, 2, 3, 10, 11);
        Check.due("13: the empty ones that are left", 2, () -> x.spares(0));
        for (int kind : new int[] {2, -1, 6, LOW, HIGH}) {
            Check.fails("13: spares(" + kind + ")", Check.INDEX, () -> x.spares(kind));
        }
    }

    // ---- promise 14

    private static void room() {
        CellTrays x = Trays.withKinds(24, 10, 1);
        Check.due("14: room(0)", 40, () -> x.room(0));
        Check.due("14: room(1)", 120, () -> x.room(1));
        Check.due("14: above 150", 1280, () -> x.room(2));
        Trays.putMany(x, 0, 3);
        Check.due("14: a free cell and 18 places", 37, () -> x.room(0));
        Check.due("14: 18 places", 108, () -> x.room(1));
        Trays.takeAll(x, 0, 1);
        Check.due("14: an empty tray's cells", 39, () -> x.room(0));
        Check.due("14: nothing is changed", 2, () -> x.count(1));
        Trays.putMany(x, 2, 147);
        Check.due("14: however many there were", 15 * 2 + 3, () -> x.room(0));
        for (int kind : new int[] {3, -1, 6, LOW, HIGH}) {
            Check.fails("14: room(" + kind + ")", Check.INDEX, () -> x.room(kind));
        }
        CellTrays y = Trays.withKinds(32, 1);
        Trays.putMany(y, 0, 40);
        Check.due("14: none", 0, () -> y.room(0));
        Check.due("14: none for another", 0, () -> y.room(1));
    }

    // ---- promise 15

    private static void worst() {
        CellTrays x = new CellTrays();
        Check.due("15: without kinds", -1, x::worst);
        x.kind(16, 1);
        x.kind(32, 1);
        x.kind(16, 1);
        Check.due("15: without trays", 0, x::worst);
        x.put(1);
        Check.due("15: the only one with waste", 1, x::worst);
        x.put(2);
        Check.due("15: 32 and 48", 2, x::worst);
        x.put(0);
        Check.due("15: of several the smallest", 0, x::worst);
        Trays.putMany(x, 1, 4);
        Check.due("15: 48, 32, 48", 0, x::worst);
        x.take(3);
        Check.due("15: added over its trays", 1, x::worst);
    }

    // ---- promise 16

    private static void mean() {
        CellTrays x = Trays.withKinds(32, 9);
        Check.due("16: without trays", 0.0, x::mean);
        Trays.putMany(x, 0, 3);
        Check.due("16: 3 in 2", 1.5, x::mean);
        Trays.putMany(x, 1, 7);
        Check.due("16: 10 in 3", 10.0 / 3, x::mean);
        Trays.takeAll(x, 0, 1, 2);
        Check.due("16: 7 in 2, an empty one too", 3.5, x::mean);
        Trays.takeAll(x, 3, 4, 5, 6, 7, 8, 9);
        Check.due("16: nothing in 2", 0.0, x::mean);
    }

    // ---- promise 17

    private static void digest() {
        CellTrays x = new CellTrays();
        long fresh = 1381;
        for (int i = 0; i < 7; i++) {
            fresh = fresh * 31;
        }
        for (int i = 0; i < 100; i++) {
            fresh = fresh * 31 - 1;
        }
        Check.due("17: a new one", fresh, x::digest);
        x.kind(24, 5);
        x.put(0);
        long d = 1381;
        long[] numbers = {1, 1, 1, 1, 40, 0, 0, 24, 5, 1, 0, 0, 1, 1, 5, 0, 0, 2, 1, 40, 0, -1};
        for (long number : numbers) {
            d = d * 31 + number;
        }
        for (int i = 0; i < 95; i++) {
            d = d * 31 - 1;
        }
        Check.due("17: a kind, a tray, a thing", d, x::digest);
        Check.due("17: again", d, x::digest);
    }

    private static void failuresChangeNothing() {
        CellTrays x = Trays.withKinds(32, 16, 1, 2, 3, 4);
        Trays.putMany(x, 0, 40);
        x.take(3);
        long before = x.digest();
        Check.fails("kind", Check.ILLEGAL, () -> x.kind(0, 1));
        Check.fails("kind", Check.STATE, () -> x.kind(1, 1));
        Check.fails("put", Check.INDEX, () -> x.put(6));
        Check.fails("put", Check.STATE, () -> x.put(1));
        Check.fails("take", Check.INDEX, () -> x.take(40));
        Check.fails("take", Check.STATE, () -> x.take(3));
        Check.fails("pack", Check.INDEX, () -> x.pack(6));
        Check.fails("told", Check.INDEX, () -> x.told(0, 5));
        Check.fails("tray", Check.INDEX, () -> x.tray(20, 0));
        Check.fails("cell", Check.INDEX, () -> x.cell(0, 2));
        Check.fails("about", Check.INDEX, () -> x.about(0, 8));
        Check.fails("count", Check.INDEX, () -> x.count(7));
        Check.fails("would", Check.INDEX, () -> x.would(6));
        Check.fails("spares", Check.INDEX, () -> x.spares(6));
        Check.fails("room", Check.INDEX, () -> x.room(6));
        Check.due("nothing is changed", before, x::digest);
        Check.due("the next thing's number", 40, () -> x.put(0));
    }
}
