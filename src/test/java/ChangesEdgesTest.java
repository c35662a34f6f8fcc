/** Promises 1 to 6, which make and change: each boundary that they name, with a test of its own. */
public final class ChangesEdgesTest {
    public static void main(String[] args) {
        newObject();
        kind();
        put();
        take();
        sweep();
        pack();
        Check.end();
    }

    private static void newObject() {
        new Edges("Promise 1: A new object")
            .test("Creates 20 places without trays", () -> {
                CellTrays x = new CellTrays();
                for (int place = 0; place < 20; place++) {
                    int p = place;
                    Check.due("tray(" + p + ", 0)", -1, () -> x.tray(p, 0));
                    Check.fails("cell(" + p + ", 0)", Check.INDEX, () -> x.cell(p, 0));
                }
                Check.fails("a 21st place", Check.INDEX, () -> x.tray(20, 0));
                Check.due("trays", 0, () -> x.count(1));
                CellTrays other = new CellTrays();
                x.kind(32, 1);
                x.put(0);
                Check.due("another object's trays", 0, () -> other.count(1));
            })
            .end();
    }

    private static void kind() {
        new Edges("Promise 2: kind")
            .test("Returns its number", () -> {
                CellTrays x = new CellTrays();
                Check.due("the first", 0, () -> x.kind(32, 16));
                Check.fails("a refused one has no number", Check.ILLEGAL, () -> x.kind(33, 16));
                Check.due("the same once more", 1, () -> x.kind(32, 16));
                Check.due("the third", 2, () -> x.kind(1, 1));
            })
            .test("size is not 1 to 32", () -> {
                CellTrays x = new CellTrays();
                for (int size : Trays.outside(1, 32)) {
                    Check.fails("kind(" + size + ", 1)", Check.ILLEGAL, () -> x.kind(size, 1));
                }
                Check.due("no kinds by that", 0, () -> x.count(0));
                Check.due("kind(1, 1)", 0, () -> x.kind(1, 1));
                Check.due("kind(32, 1)", 1, () -> x.kind(32, 1));
            })
            .test("step is not 1 to 16", () -> {
                CellTrays x = new CellTrays();
                for (int step : Trays.outside(1, 16)) {
                    Check.fails("kind(1, " + step + ")", Check.ILLEGAL, () -> x.kind(1, step));
                }
                Check.due("no kinds by that", 0, () -> x.count(0));
                Check.due("kind(1, 1)", 0, () -> x.kind(1, 1));
                Check.due("kind(1, 16)", 1, () -> x.kind(1, 16));
            })
            .test("there are 6", () -> {
                CellTrays x = Trays.withKinds(1, 2, 3, 4, 5);
                Check.due("the sixth", 5, () -> x.kind(6, 1));
                Check.fails("the seventh", Check.STATE, () -> x.kind(7, 1));
                Check.fails("once more", Check.STATE, () -> x.kind(1, 1));
                Check.due("kinds", 6, () -> x.count(0));
                Check.fails("the seventh isn't there", Check.INDEX, () -> x.about(6, 0));
            })
            .end();
    }

    // ---- put

    private static void put() {
        new Edges("Promise 3: put")
            .test("Returns its number", () -> {
                CellTrays x = Trays.withKinds(32, 32);
                Check.due("the first", 0, () -> x.put(1));
                Check.fails("a refused one has no number", Check.INDEX, () -> x.put(2));
                Check.due("of another kind", 1, () -> x.put(0));
                x.take(1);
                Check.due("no number twice", 2, () -> x.put(0));
            })
            .test("there is no such kind", () -> {
                CellTrays none = new CellTrays();
                Check.fails("put(0) without kinds", Check.INDEX, () -> none.put(0));
                CellTrays x = Trays.withKinds(8, 8);
                for (int kind : Trays.outside(0, 1)) {
                    Check.fails("put(" + kind + ")", Check.INDEX, () -> x.put(kind));
                }
                Check.due("the last kind", 0, () -> x.put(1));
                CellTrays six = Trays.withKinds(1, 2, 3, 4, 5, 6);
                Check.due("the last of 6", 0, () -> six.put(5));
                Check.fails("put(6)", Check.INDEX, () -> six.put(6));
            })
            .test("there were 150", () -> {
                CellTrays x = Trays.withKinds(1, 32);
                Trays.putMany(x, 0, 149);
                Check.due("the 150th", 149, () -> x.put(0));
                Check.fails("the 151st", Check.STATE, () -> x.put(0));
                Check.fails("of another kind", Check.STATE, () -> x.put(1));
                Trays.takeRange(x, 0, 150);
                Check.fails("though none is there", Check.STATE, () -> x.put(0));
                Check.due("none is there", 0, () -> x.count(2));
                Check.due("things in all", 150, () -> x.count(3));
            })
            .test("there is no room for it", ChangesEdgesTest::noRoom)
            .end();
    }

    private static void noRoom() {
        CellTrays x = Trays.withKinds(32, 32);
        Trays.putMany(x, 0, 39);
        Check.fails("another kind, the last tray partly taken", Check.STATE, () -> x.put(1));
        Check.due("into the last free cell", 39, () -> x.put(0));
        Check.fails("all full", Check.STATE, () -> x.put(0));
        Check.fails("another kind, all full", Check.STATE, () -> x.put(1));
        Trays.takeAll(x, 0, 1);
        Check.fails("another kind, an empty one there", Check.STATE, () -> x.put(1));
        Trays.takeAll(x, 2, 3);
        Check.due("another kind, a place without a tray", 40, () -> x.put(1));
        Check.due("there", 1, () -> x.told(40, 1));
        Trays.putMany(x, 0, 2);
        x.put(1);
        Check.fails("all full again", Check.STATE, () -> x.put(1));

        // 10 trays of 7 cells and 10 of 8 have 150 cells: the last thing is the one into the last cell.
        CellTrays y = Trays.withKinds(9, 8);
        Trays.putMany(y, 0, 70);
        Trays.putMany(y, 1, 79);
        Check.due("the 150th into the last free cell", 149, () -> y.put(1));
        Check.due("its place and cell", "19 7", () -> y.told(149, 1) + " " + y.told(149, 2));
        Check.fails("no room, and there were 150", Check.STATE, () -> y.put(1));
    }

    // ---- take

    private static void take() {
        new Edges("Promise 4: take")
            .test("Returns whether its tray goes by that", () -> {
                CellTrays x = Trays.withKinds(32, 32);
                Trays.putMany(x, 0, 6);
                Trays.putMany(x, 1, 1);
                Check.due("from a full one", false, () -> x.take(2));
                Check.due("the first empty one", false, () -> x.take(3));
                Check.due("from a full one, another is empty", false, () -> x.take(0));
                Check.due("empty, and another one too", true, () -> x.take(1));
                Check.due("empty, another kind's too", false, () -> x.take(6));
                x.sweep();
                Trays.takeAll(x, 4);
                Check.due("empty, and the other one was swept", false, () -> x.take(5));
            })
            .test("there is no such thing", () -> {
                CellTrays x = Trays.withKinds(20);
                Check.fails("take(0) without things", Check.INDEX, () -> x.take(0));
                Trays.putMany(x, 0, 3);
                for (int thing : Trays.outside(0, 2)) {
                    Check.fails("take(" + thing + ")", Check.INDEX, () -> x.take(thing));
                }
                Check.due("the last thing", false, () -> x.take(2));
                Check.due("the first thing", false, () -> x.take(0));
                CellTrays y = Trays.withKinds(1);
                Trays.putMany(y, 0, 150);
                Check.fails("take(150)", Check.INDEX, () -> y.take(150));
                Check.due("the last of 150", false, () -> y.take(149));
            })
            .test("it was taken out", () -> {
                CellTrays x = Trays.withKinds(32);
                Trays.putMany(x, 0, 4);
                x.take(1);
                Check.fails("twice", Check.STATE, () -> x.take(1));
                x.put(0);
                Check.fails("its cell has another thing", Check.STATE, () -> x.take(1));
                Check.due("that one stays", "0 4", () -> Trays.cells(x, 0));
                Trays.takeAll(x, 0, 4, 2, 3);
                Check.fails("its tray is empty", Check.STATE, () -> x.take(0));
                Check.fails("its tray went", Check.STATE, () -> x.take(3));
                x.sweep();
                Check.fails("its tray was swept", Check.STATE, () -> x.take(4));
                x.put(0);
                Check.fails("another tray is at its place", Check.STATE, () -> x.take(0));
                Check.due("the new thing is there", 1, () -> x.count(2));
            })
            .end();
    }

    // ---- sweep

    private static void sweep() {
        new Edges("Promise 5: sweep")
            .test("Has all empty trays go", () -> {
                CellTrays x = Trays.withKinds(32, 31);
                Trays.putMany(x, 0, 38);
                Trays.putMany(x, 1, 2);
                Trays.takeAll(x, 0, 1, 38, 39, 3);
                x.sweep();
                Check.due("an empty one at 0, of kind 0", -1, () -> x.tray(0, 0));
                Check.due("an empty one at 19, of kind 1", -1, () -> x.tray(19, 0));
                Check.due("a partly taken one", 1, () -> x.tray(1, 3));
                Check.due("a full one", 2, () -> x.tray(18, 3));
                Check.due("trays", 18, () -> x.count(1));
                Check.fails("no cells there", Check.INDEX, () -> x.cell(19, 0));
                x.put(1);
                Check.due("the place is used again", "40 -1", () -> Trays.cells(x, 0));
                CellTrays y = sevenLeftOfTwenty();
                y.sweep();
                Check.due("many of one kind", "7 7 6 -1 -1", () -> Trays.things(y, 5));
            })
            .test("Returns how many go", () -> {
                CellTrays x = new CellTrays();
                Check.due("without trays", 0, x::sweep);
                x.kind(32, 1);
                Trays.putMany(x, 0, 3);
                Check.due("a full one, a partly taken one", 0, x::sweep);
                x.take(2);
                Check.due("one", 1, x::sweep);
                Check.due("it went already", 0, x::sweep);
                Check.due("went in all", 1, () -> x.count(5));
                CellTrays y = sevenLeftOfTwenty();
                Check.due("many of one kind", 17, y::sweep);
                Check.due("trays", 3, () -> y.count(1));
                CellTrays z = Trays.withKinds(1, 2, 3, 4, 5, 6);
                for (int kind = 0; kind < 6; kind++) {
                    z.put(kind);
                    z.take(kind);
                }
                Check.due("one of each kind", 6, z::sweep);
                Check.due("no tray is left", 0, () -> z.count(1));
            })
            .end();
    }

    /** 20 trays of 7 cells, one thing in each, moved together: 7, 7, 6 and 17 empty ones. */
    private static CellTrays sevenLeftOfTwenty() {
        CellTrays x = oneInEachOfTwenty();
        x.pack(0);
        return x;
    }

    private static CellTrays oneInEachOfTwenty() {
        CellTrays x = Trays.withKinds(9);
        Trays.putMany(x, 0, 140);
        for (int place = 0; place < 20; place++) {
            Trays.takeRange(x, place * 7 + 1, place * 7 + 7);
        }
        return x;
    }

    // ---- pack

    private static void pack() {
        Edges edges = new Edges("Promise 6: pack");
        packChooses(edges);
        packCells(edges);
        packEnds(edges);
        edges
            .test("there is no such kind", () -> {
                CellTrays none = new CellTrays();
                Check.fails("pack(0) without kinds", Check.INDEX, () -> none.pack(0));
                CellTrays x = Trays.withKinds(8, 8);
                for (int kind : Trays.outside(0, 1)) {
                    Check.fails("pack(" + kind + ")", Check.INDEX, () -> x.pack(kind));
                }
                Check.due("the last kind", 0, () -> x.pack(1));
            })
            .end();
    }

    /** Three trays of four cells, without these of the things 0 to 11. */
    private static CellTrays threeWithout(int... taken) {
        CellTrays x = Trays.withKinds(16);
        Trays.putMany(x, 0, 12);
        Trays.takeAll(x, taken);
        return x;
    }

    private static void packChooses(Edges edges) {
        edges
            .test("Moves things of a kind together", () -> {
                CellTrays x = Trays.withKinds(16, 16);
                Trays.putMany(x, 0, 8);
                Trays.putMany(x, 1, 8);
                Trays.takeAll(x, 0, 1, 4, 8, 9, 12);
                Check.due("two partly taken ones of each", "2 3 2 3", () -> Trays.things(x, 4));
                Check.due("the first kind's", 1, () -> x.pack(0));
                Check.due("there alone", "1 4 2 3", () -> Trays.things(x, 4));
                Check.due("the second kind's", 1, () -> x.pack(1));
                Check.due("there alone", "1 4 1 4", () -> Trays.things(x, 4));
            })
            .test("of the one with the fewest things", () -> {
                CellTrays x = threeWithout(0, 1, 2, 4, 5, 8);
                Check.due("1 2 3", "1 2 3", () -> Trays.things(x, 3));
                Check.due("one at 0 alone", 1, () -> x.pack(0));
                Check.due("0 2 4", "0 2 4", () -> Trays.things(x, 3));
                CellTrays y = threeWithout(0, 1, 4, 5, 6, 8);
                y.pack(0);
                Check.due("2 1 3, one at 1", "2 0 4", () -> Trays.things(y, 3));
            })
            .test("(of several the one at the greatest place)", () -> {
                CellTrays x = threeWithout(0, 1, 4, 5, 8);
                Check.due("2 2 3", "2 2 3", () -> Trays.things(x, 3));
                Check.due("two moves", 2, () -> x.pack(0));
                Check.due("from 1", "3 0 4", () -> Trays.things(x, 3));
                Check.due("first to 2", "7 9 10 11", () -> Trays.cells(x, 2));
                Check.due("then to 0", "6 -1 2 3", () -> Trays.cells(x, 0));
            })
            .test("of the one with the most things", () -> {
                CellTrays x = threeWithout(0, 1, 4, 8, 9, 10);
                Check.due("2 3 1", "2 3 1", () -> Trays.things(x, 3));
                Check.due("one move", 1, () -> x.pack(0));
                Check.due("to 1", "2 4 0", () -> Trays.things(x, 3));
                CellTrays y = threeWithout(4, 8, 9);
                y.pack(0);
                Check.due("a full one has more, but isn't partly taken", "4 4 1", () -> Trays.things(y, 3));
            })
            .test("(of several the one at the smallest place)", () -> {
                CellTrays x = threeWithout(0, 4, 8, 9, 10);
                Check.due("3 3 1", "3 3 1", () -> Trays.things(x, 3));
                Check.due("one move", 1, () -> x.pack(0));
                Check.due("to 0", "4 3 0", () -> Trays.things(x, 3));
                Check.due("there", "11 1 2 3", () -> Trays.cells(x, 0));
                CellTrays y = threeWithout(0, 1, 2, 4, 5, 8, 9);
                y.pack(0);
                Check.due("1 2 2, all to 1", "0 4 1", () -> Trays.things(y, 3));
            })
            .test("each time chosen anew", () -> {
                CellTrays x = threeWithout(0, 1, 2, 4, 5, 8, 9);
                Check.due("1 2 2", "1 2 2", () -> Trays.things(x, 3));
                Check.due("two moves", 2, () -> x.pack(0));
                Check.due("first from 0, then from 2", "3 11 6 7", () -> Trays.cells(x, 1));
                CellTrays y = threeWithout(0, 5, 8, 9);
                Check.due("3 3 2", "3 3 2", () -> Trays.things(y, 3));
                Check.due("two moves", 2, () -> y.pack(0));
                Check.due("first to 0", "11 1 2 3", () -> Trays.cells(y, 0));
                Check.due("then, as 0 is full, to 1", "4 10 6 7", () -> Trays.cells(y, 1));
            });
    }

    private static void packCells(Edges edges) {
        edges
            .test("the thing in the taken cell with the greatest number", () -> {
                CellTrays x = Trays.withKinds(16);
                Trays.putMany(x, 0, 8);
                x.take(4);
                x.put(0);
                Trays.takeAll(x, 5, 6, 0);
                Check.due("a later thing in the first cell", "8 -1 -1 7", () -> Trays.cells(x, 1));
                Check.due("one move", 1, () -> x.pack(0));
                Check.due("the last cell's thing", "7 1 2 3", () -> Trays.cells(x, 0));
                Check.due("the later thing stays", "8 -1 -1 -1", () -> Trays.cells(x, 1));
                Check.due("the moved thing's place", 0, () -> x.told(7, 1));
                CellTrays y = Trays.withKinds(16);
                Trays.putMany(y, 0, 8);
                Trays.takeAll(y, 0, 6, 7);
                y.pack(0);
                Check.due("not the last cell, but the last taken one", "4 -1 -1 -1", () -> Trays.cells(y, 1));
                CellTrays z = Trays.withKinds(1, 1);
                Trays.putMany(z, 0, 66);
                Trays.putMany(z, 1, 2);
                Trays.takeAll(z, 63);
                Check.due("one move", 1, () -> z.pack(0));
                Check.due("none of the tray behind it", "64 1 2", () -> Trays.things(z, 3));
                Check.due("the one that is moved", 65, () -> z.cell(0, 63));
            })
            .test("the free cell with the smallest number", () -> {
                CellTrays x = Trays.withKinds(16);
                Trays.putMany(x, 0, 8);
                Trays.takeAll(x, 1, 3, 4, 6, 7);
                Check.due("1 and 3 are free", "0 -1 2 -1", () -> Trays.cells(x, 0));
                x.pack(0);
                Check.due("1 is taken", "0 5 2 -1", () -> Trays.cells(x, 0));
                Check.due("the moved thing's cell", 1, () -> x.told(5, 2));
                Check.due("its beginning", 16, () -> x.told(5, 3));
            });
    }

    private static void packEnds(Edges edges) {
        edges
            .test("as long as at least two of its trays are partly taken", () -> {
                CellTrays x = Trays.withKinds(16, 16);
                Check.due("no trays", 0, () -> x.pack(0));
                Trays.putMany(x, 0, 8);
                Check.due("full ones", 0, () -> x.pack(0));
                x.take(0);
                Check.due("a partly taken one, a full one", 0, () -> x.pack(0));
                Trays.takeAll(x, 4, 5, 6, 7);
                Check.due("a partly taken one, an empty one", 0, () -> x.pack(0));
                x.put(1);
                Check.due("another kind's partly taken one", 0, () -> x.pack(0));
                Check.due("nothing is moved", "3 0 1", () -> Trays.things(x, 3));
                CellTrays y = threeWithout(0, 4, 8);
                Check.due("three: till one is left", 2, () -> y.pack(0));
                Check.due("that one", "4 4 1", () -> Trays.things(y, 3));
                CellTrays z = threeWithout(0, 4, 5, 6);
                Check.due("two: till none is left", 1, () -> z.pack(0));
                Check.due("none", "4 0 4", () -> Trays.things(z, 3));
            })
            .test("A tray that is empty by that stays", () -> {
                CellTrays x = threeWithout(0, 1, 4, 5, 6, 8, 9, 10);
                Check.due("2 1 1", "2 1 1", () -> Trays.things(x, 3));
                x.pack(0);
                Check.due("even two", "4 0 0", () -> Trays.things(x, 3));
                Check.due("none went", 0, () -> x.count(5));
                Check.due("empty ones", 2, () -> x.about(0, 3));
                Check.due("their cells", "-1 -1 -1 -1", () -> Trays.cells(x, 2));
                CellTrays y = Trays.withKinds(16);
                Trays.putMany(y, 0, 12);
                Trays.takeAll(y, 8, 9, 10, 11, 0, 4, 5, 6);
                y.pack(0);
                Check.due("beside one that was empty", "4 0 0", () -> Trays.things(y, 3));
            })
            .test("Returns how many things are moved", () -> {
                CellTrays x = oneInEachOfTwenty();
                Check.due("all but those in the first three", 17, () -> x.pack(0));
                Check.due("none is left to move", 0, () -> x.pack(0));
                Check.due("moved in all", 17, () -> x.count(6));
                CellTrays y = Trays.withKinds(1);
                Trays.putMany(y, 0, 128);
                Trays.takeRange(y, 0, 32);
                Trays.takeRange(y, 64, 96);
                Check.due("half a tray of 64 to the other half", 32, () -> y.pack(0));
                Check.due("full and empty", "64 0", () -> Trays.things(y, 2));
            });
    }
}
