import java.math.BigInteger;

/** Promises 7 to 17, which answer: each boundary that they name, with a test of its own. */
public final class AnswersEdgesTest {
    public static void main(String[] args) {
        told();
        tray();
        cell();
        about();
        count();
        would();
        spares();
        room();
        worst();
        mean();
        digest();
        Check.end();
    }

    // ---- told

    private static void told() {
        new Edges("Promise 7: told")
            .test("0 its kind, 1 the place of its tray, 2 its cell, 3 the beginning of its cell in the tray", () -> {
                CellTrays x = lastPlaceFull();
                Check.due("the first thing", "0 0 0 0 0", () -> allTold(x, 0));
                Check.due("the last cell at the last place", "1 19 1 34 1250", () -> allTold(x, 39));
            })
            .test("4 64 * the place of its tray and this, added", () -> {
                CellTrays x = Trays.withKinds(1, 20);
                Trays.putMany(x, 0, 64);
                Trays.putMany(x, 1, 4);
                Check.due("the last cell at 0", 63, () -> x.told(63, 4));
                Check.due("the first cell at 1", 64, () -> x.told(64, 4));
                Check.due("with an offset of 1", 129, () -> x.told(67, 4));
            })
            .test("-1 for 1 to 4, if it was taken out", () -> {
                CellTrays x = new CellTrays();
                x.kind(8, 1);
                x.kind(32, 1);
                Trays.putMany(x, 1, 4);
                x.take(0);
                Check.due("its tray is partly taken", "1 -1 -1 -1 -1", () -> allTold(x, 0));
                Check.due("the other one in it", "1 0 1 32 32", () -> allTold(x, 1));
                Trays.takeAll(x, 1, 3, 2);
                Check.due("its tray is empty", "1 -1 -1 -1 -1", () -> allTold(x, 1));
                Check.due("its tray went", "1 -1 -1 -1 -1", () -> allTold(x, 2));
                x.put(0);
                Check.due("another kind is at its place", "1 -1 -1 -1 -1", () -> allTold(x, 2));
                x.sweep();
                Check.due("its tray was swept", "1 -1 -1 -1 -1", () -> allTold(x, 0));
            })
            .test("there is no such thing", () -> {
                CellTrays x = Trays.withKinds(8);
                for (int what = 0; what <= 4; what++) {
                    int w = what;
                    Check.fails("told(0, " + w + ") without things", Check.INDEX, () -> x.told(0, w));
                }
                Trays.putMany(x, 0, 2);
                for (int thing : Trays.outside(0, 1)) {
                    Check.fails("told(" + thing + ", 0)", Check.INDEX, () -> x.told(thing, 0));
                    Check.fails("told(" + thing + ", 4)", Check.INDEX, () -> x.told(thing, 4));
                }
                CellTrays y = Trays.withKinds(1);
                Trays.putMany(y, 0, 150);
                Check.due("the last of 150", "0 2 21 21 149", () -> allTold(y, 149));
                Check.fails("told(150, 0)", Check.INDEX, () -> y.told(150, 0));
            })
            .test("what is not 0 to 4", () -> {
                CellTrays x = Trays.withKinds(8);
                Trays.putMany(x, 0, 2);
                x.take(1);
                for (int what : Trays.outside(0, 4)) {
                    Check.fails("told(0, " + what + ")", Check.INDEX, () -> x.told(0, what));
                    Check.fails("taken out: told(1, " + what + ")", Check.INDEX, () -> x.told(1, what));
                    Check.fails("no such thing: told(2, " + what + ")", Check.INDEX, () -> x.told(2, what));
                }
            })
            .end();
    }

    /** 36 things of size 32 fill 18 trays; 4 of size 29 fill the last two, with the offsets 0 and 5. */
    private static CellTrays lastPlaceFull() {
        CellTrays x = new CellTrays();
        x.kind(32, 1);
        x.kind(29, 5);
        Trays.putMany(x, 0, 36);
        Trays.putMany(x, 1, 4);
        return x;
    }

    private static String allTold(CellTrays x, int thing) {
        StringBuilder told = new StringBuilder();
        for (int what = 0; what <= 4; what++) {
            told.append(what == 0 ? "" : " ").append(x.told(thing, what));
        }
        return told.toString();
    }

    // ---- tray

    private static void tray() {
        new Edges("Promise 8: tray")
            .test("0 the kind of the tray there, 1 its offset, 2 its cells, 3 things in it", () -> {
                CellTrays x = lastPlaceFull();
                Check.due("at 0", "0 0 2 2 0", () -> allOfTray(x, 0));
                Check.due("at 18", "1 0 2 2 6", () -> allOfTray(x, 18));
                Check.due("at 19", "1 5 2 2 6", () -> allOfTray(x, 19));
            })
            .test("4 what is wasted of it: 64 less size * things", () -> {
                CellTrays x = Trays.withKinds(20, 32);
                x.put(0);
                Check.due("with one of three", 44, () -> x.tray(0, 4));
                Trays.putMany(x, 0, 2);
                Check.due("full", 4, () -> x.tray(0, 4));
                Trays.takeAll(x, 0, 1, 2);
                Check.due("empty", 64, () -> x.tray(0, 4));
                Trays.putMany(x, 1, 2);
                Check.due("nothing", 0, () -> x.tray(1, 4));
            })
            .test("-1 for 0 to 4 without a tray", () -> {
                CellTrays x = Trays.withKinds(32);
                Check.due("never one", "-1 -1 -1 -1 -1", () -> allOfTray(x, 0));
                Trays.putMany(x, 0, 6);
                Check.due("not yet", "-1 -1 -1 -1 -1", () -> allOfTray(x, 19));
                Trays.takeAll(x, 0, 1, 2, 3);
                Check.due("it went", "-1 -1 -1 -1 -1", () -> allOfTray(x, 1));
                Check.due("an empty one is one", "0 0 2 0 64", () -> allOfTray(x, 0));
                x.sweep();
                Check.due("it was swept", "-1 -1 -1 -1 -1", () -> allOfTray(x, 0));
            })
            .test("place is not 0 to 19", () -> {
                CellTrays x = lastPlaceFull();
                for (int place : Trays.outside(0, 19)) {
                    for (int what = 0; what <= 4; what++) {
                        int w = what;
                        Check.fails("tray(" + place + ", " + w + ")", Check.INDEX, () -> x.tray(place, w));
                    }
                }
            })
            .test("what is not 0 to 4", () -> {
                CellTrays x = Trays.withKinds(32);
                x.put(0);
                for (int what : Trays.outside(0, 4)) {
                    Check.fails("tray(0, " + what + ")", Check.INDEX, () -> x.tray(0, what));
                    Check.fails("without a tray: tray(1, " + what + ")", Check.INDEX, () -> x.tray(1, what));
                    Check.fails("no such place: tray(20, " + what + ")", Check.INDEX, () -> x.tray(20, what));
                }
            })
            .end();
    }

    private static String allOfTray(CellTrays x, int place) {
        StringBuilder told = new StringBuilder();
        for (int what = 0; what <= 4; what++) {
            told.append(what == 0 ? "" : " ").append(x.tray(place, what));
        }
        return told.toString();
    }

    // ---- cell

    private static void cell() {
        new Edges("Promise 9: cell")
            .test("Returns the thing in it; -1 if it is free", () -> {
                CellTrays x = Trays.withKinds(20);
                x.put(0);
                Check.due("never taken", -1, () -> x.cell(0, 2));
                Trays.putMany(x, 0, 3);
                Check.due("the last of the first tray", 2, () -> x.cell(0, 2));
                Check.due("the first of the second one", 3, () -> x.cell(1, 0));
                x.take(2);
                Check.due("taken out", -1, () -> x.cell(0, 2));
                x.take(3);
                Check.due("of an empty tray", -1, () -> x.cell(1, 0));
            })
            .test("place is not 0 to 19", () -> {
                CellTrays x = lastPlaceFull();
                for (int place : Trays.outside(0, 19)) {
                    Check.fails("cell(" + place + ", 0)", Check.INDEX, () -> x.cell(place, 0));
                    Check.fails("cell(" + place + ", -64)", Check.INDEX, () -> x.cell(place, -64));
                    Check.fails("cell(" + place + ", 64)", Check.INDEX, () -> x.cell(place, 64));
                }
                Check.due("cell(0, 0)", 0, () -> x.cell(0, 0));
                Check.due("cell(19, 1)", 39, () -> x.cell(19, 1));
            })
            .test("there is no tray", () -> {
                CellTrays x = Trays.withKinds(32);
                Check.fails("never one", Check.INDEX, () -> x.cell(0, 0));
                Trays.putMany(x, 0, 4);
                Check.fails("not yet", Check.INDEX, () -> x.cell(2, 0));
                Check.fails("at the last place", Check.INDEX, () -> x.cell(19, 0));
                Trays.takeAll(x, 0, 1, 2, 3);
                Check.fails("it went", Check.INDEX, () -> x.cell(1, 0));
                Check.due("an empty one is one", -1, () -> x.cell(0, 0));
                x.sweep();
                Check.fails("it was swept", Check.INDEX, () -> x.cell(0, 0));
            })
            .test("no such cell", () -> {
                for (int size = 1; size <= 32; size++) {
                    int cells = 64 / size;
                    CellTrays x = Trays.withKinds(size);
                    Trays.putMany(x, 0, cells + 1);
                    Check.due("the last cell of size " + size, cells - 1, () -> x.cell(0, cells - 1));
                    for (int cell : Trays.outside(0, cells - 1)) {
                        Check.fails("size " + size + ", cell(0, " + cell + ")", Check.INDEX, () -> x.cell(0, cell));
                        Check.fails("size " + size + ", cell(1, " + cell + ")", Check.INDEX, () -> x.cell(1, cell));
                    }
                }
            })
            .end();
    }

    // ---- about

    private static void about() {
        new Edges("Promise 10: about")
            .test("0 its size, 1 its step", () -> {
                CellTrays x = new CellTrays();
                x.kind(32, 16);
                x.kind(1, 2);
                x.put(0);
                Check.due("a kind with a tray", "32 16 1 0 0 1 1 0", () -> allAbout(x, 0));
                Check.due("a kind without trays", "1 2 0 0 0 0 0 0", () -> allAbout(x, 1));
            })
            .test("2 its trays, 3 empty ones of these, 4 full ones", () -> {
                CellTrays x = Trays.withKinds(20, 20);
                Trays.putMany(x, 1, 1);
                Trays.putMany(x, 0, 9);
                Trays.takeAll(x, 1, 4, 5, 6);
                Check.due("a partly taken one, an empty one, a full one", "20 1 3 1 1 5 4 3", () -> allAbout(x, 0));
                Check.due("another kind's", "20 1 1 0 0 1 2 1", () -> allAbout(x, 1));
                Trays.takeAll(x, 2, 3);
                Check.due("one went", "20 1 2 1 1 3 3 3", () -> allAbout(x, 0));
                Trays.takeAll(x, 7, 8);
                Check.due("none is full", "20 1 2 1 0 1 5 3", () -> allAbout(x, 0));
            })
            .test("5 its things that are there, 6 free cells of its trays", () -> {
                CellTrays x = Trays.withKinds(24, 1);
                x.put(0);
                Check.due("1 of 2", "1 1", () -> x.about(0, 5) + " " + x.about(0, 6));
                x.put(0);
                Check.due("2 of 2", "2 0", () -> x.about(0, 5) + " " + x.about(0, 6));
                Trays.takeAll(x, 0, 1);
                Check.due("0 of 2", "0 2", () -> x.about(0, 5) + " " + x.about(0, 6));
                x.sweep();
                Check.due("swept", "0 0", () -> x.about(0, 5) + " " + x.about(0, 6));
                Trays.putMany(x, 1, 65);
                Check.due("65 of 128", "65 63", () -> x.about(1, 5) + " " + x.about(1, 6));
            })
            .test("7 the offset of its next new tray", () -> {
                CellTrays x = new CellTrays();
                x.kind(24, 8);
                Check.due("the first", 0, () -> x.about(0, 7));
                x.put(0);
                Check.due("the second", 8, () -> x.about(0, 7));
                x.put(0);
                Check.due("no new tray yet", 8, () -> x.about(0, 7));
                x.put(0);
                Check.due("just what is left", 16, () -> x.about(0, 7));
                Trays.putMany(x, 0, 2);
                Check.due("0 again", 0, () -> x.about(0, 7));
                Trays.takeRange(x, 0, 5);
                x.sweep();
                Check.due("all are gone", 0, () -> x.about(0, 7));
                x.put(0);
                Check.due("it goes on", 8, () -> x.about(0, 7));
            })
            .test("there is no such kind", () -> {
                CellTrays none = new CellTrays();
                CellTrays x = Trays.withKinds(8, 8);
                for (int what = 0; what <= 7; what++) {
                    int w = what;
                    Check.fails("about(0, " + w + ") without kinds", Check.INDEX, () -> none.about(0, w));
                    for (int kind : Trays.outside(0, 1)) {
                        Check.fails("about(" + kind + ", " + w + ")", Check.INDEX, () -> x.about(kind, w));
                    }
                }
                CellTrays six = Trays.withKinds(1, 2, 3, 4, 5, 6);
                Check.due("the last of 6", 6, () -> six.about(5, 0));
                Check.fails("about(6, 0)", Check.INDEX, () -> six.about(6, 0));
            })
            .test("what is not 0 to 7", () -> {
                CellTrays x = Trays.withKinds(8);
                for (int what : Trays.outside(0, 7)) {
                    Check.fails("about(0, " + what + ")", Check.INDEX, () -> x.about(0, what));
                    Check.fails("no such kind: about(1, " + what + ")", Check.INDEX, () -> x.about(1, what));
                }
            })
            .end();
    }

    private static String allAbout(CellTrays x, int kind) {
        StringBuilder told = new StringBuilder();
        for (int what = 0; what <= 7; what++) {
            told.append(what == 0 ? "" : " ").append(x.about(kind, what));
        }
        return told.toString();
    }

    // ---- count

    private static void count() {
        new Edges("Promise 11: count")
            .test("0 kinds, 1 trays, 2 things that are there, 3 things in all", () -> {
                CellTrays x = new CellTrays();
                Check.due("a new one", "0 0 0 0 0 0 0", () -> allCounts(x));
                x.kind(32, 1);
                Check.due("a kind", "1 0 0 0 0 0 0", () -> allCounts(x));
                Trays.putMany(x, 0, 40);
                Check.due("all full", "1 20 40 40 0 0 0", () -> allCounts(x));
                Check.fails("no room", Check.STATE, () -> x.put(0));
                Check.due("still", "1 20 40 40 0 0 0", () -> allCounts(x));
                Trays.takeRange(x, 0, 40);
                Check.due("all taken out", "1 1 0 40 64 19 0", () -> allCounts(x));
                x.sweep();
                Check.due("all swept", "1 0 0 40 0 20 0", () -> allCounts(x));
            })
            .test("4 what is wasted of all trays", () -> {
                CellTrays x = Trays.withKinds(32, 20);
                x.put(0);
                Check.due("half a tray", 32, () -> x.count(4));
                x.put(0);
                Check.due("nothing", 0, () -> x.count(4));
                x.put(1);
                Check.due("of another kind", 44, () -> x.count(4));
                Trays.takeAll(x, 0, 1);
                Check.due("and an empty one", 108, () -> x.count(4));
            })
            .test("5 trays that went in all", () -> {
                CellTrays x = Trays.withKinds(32, 32);
                Trays.putMany(x, 0, 4);
                Trays.putMany(x, 1, 1);
                Trays.takeAll(x, 0, 1, 4);
                Check.due("none by becoming empty", 0, () -> x.count(5));
                Trays.takeAll(x, 2, 3);
                Check.due("one by take()", 1, () -> x.count(5));
                x.sweep();
                Check.due("and two by sweep()", 3, () -> x.count(5));
                x.put(0);
                Check.due("a new one at such a place", 3, () -> x.count(5));
            })
            .test("6 things that were moved in all", () -> {
                CellTrays x = Trays.withKinds(32, 32);
                Trays.putMany(x, 0, 4);
                Trays.putMany(x, 1, 4);
                Trays.takeAll(x, 0, 2, 4, 6);
                x.pack(0);
                Check.due("one", 1, () -> x.count(6));
                x.pack(0);
                Check.due("none more", 1, () -> x.count(6));
                x.pack(1);
                Check.due("one of another kind", 2, () -> x.count(6));
                Trays.takeAll(x, 1, 3);
                Check.due("though taken out", 2, () -> x.count(6));
            })
            .test("what is not 0 to 6", () -> {
                CellTrays x = Trays.withKinds(8);
                for (int what : Trays.outside(0, 6)) {
                    Check.fails("count(" + what + ")", Check.INDEX, () -> x.count(what));
                }
            })
            .end();
    }

    private static String allCounts(CellTrays x) {
        StringBuilder told = new StringBuilder();
        for (int what = 0; what <= 6; what++) {
            told.append(what == 0 ? "" : " ").append(x.count(what));
        }
        return told.toString();
    }

    // ---- would

    private static void would() {
        new Edges("Promise 12: would")
            .test("Returns the place of the tray into which a thing of it would be put now", () -> {
                CellTrays x = Trays.withKinds(32, 32);
                for (int call = 0; call < 40; call++) {
                    int c = call;
                    int kind = c % 3 == 0 ? 1 : 0;
                    int would = x.would(kind);
                    if (would >= 0) {
                        int thing = x.put(kind);
                        Check.due("put number " + c, would, () -> x.told(thing, 1));
                    }
                    if (c % 4 == 3) {
                        x.take(c - 3);
                    }
                }
            })
            .test("(however many things there were)", () -> {
                CellTrays x = Trays.withKinds(1, 32);
                Trays.putMany(x, 0, 149);
                Check.due("before the 150th", 2, () -> x.would(0));
                x.put(0);
                Check.due("after the 150th", 2, () -> x.would(0));
                Check.due("a new tray", 3, () -> x.would(1));
                Trays.takeRange(x, 0, 64);
                Check.due("not into the empty one", 2, () -> x.would(0));
                Trays.takeRange(x, 64, 150);
                Check.due("into the empty one", 0, () -> x.would(0));
                x.sweep();
                Check.due("into a new one", 0, () -> x.would(0));
            })
            .test("-1 if there is no room", () -> {
                CellTrays x = Trays.withKinds(32, 32);
                Trays.putMany(x, 0, 39);
                Check.due("the last free cell", 19, () -> x.would(0));
                Check.due("not another kind's", -1, () -> x.would(1));
                x.put(0);
                Check.due("all full", -1, () -> x.would(0));
                Trays.takeAll(x, 14, 15);
                Check.due("an empty one", 7, () -> x.would(0));
                Check.due("not another kind's empty one", -1, () -> x.would(1));
                x.sweep();
                Check.due("a place without a tray", 7, () -> x.would(1));
            })
            .test("(nothing is changed)", () -> {
                CellTrays x = Trays.withKinds(24, 24);
                Trays.putMany(x, 0, 3);
                long before = x.digest();
                Check.due("into a partly taken one", 1, () -> x.would(0));
                Check.due("into a new one", 2, () -> x.would(1));
                Check.due("twice", 2, () -> x.would(1));
                Check.due("digest", before, x::digest);
                x.put(1);
                Check.due("the first one's offset", 0, () -> x.tray(2, 1));
            })
            .test("there is no such kind", () -> {
                CellTrays none = new CellTrays();
                Check.fails("would(0) without kinds", Check.INDEX, () -> none.would(0));
                CellTrays x = Trays.withKinds(8, 8);
                for (int kind : Trays.outside(0, 1)) {
                    Check.fails("would(" + kind + ")", Check.INDEX, () -> x.would(kind));
                }
                Check.due("the last kind", 0, () -> x.would(1));
            })
            .end();
    }

    // ---- spares

    private static void spares() {
        new Edges("Promise 13: spares")
            .test("Returns how many trays of it would be empty", () -> {
                CellTrays x = Trays.withKinds(16, 16);
                Check.due("no trays", 0, () -> x.spares(0));
                Trays.putMany(x, 1, 1);
                Trays.putMany(x, 0, 12);
                Check.due("full ones", 0, () -> x.spares(0));
                Trays.takeAll(x, 1, 5, 9);
                Check.due("3 3 3 need three", 0, () -> x.spares(0));
                x.take(10);
                Check.due("3 3 2 fill just two", 1, () -> x.spares(0));
                Trays.takeAll(x, 2, 3, 6);
                Check.due("1 2 2 need two", 1, () -> x.spares(0));
                x.take(7);
                Check.due("1 1 2 fill just one", 2, () -> x.spares(0));
                Trays.takeAll(x, 8, 11);
                Check.due("0 1 1 in one", 2, () -> x.spares(0));
                Check.due("another kind's", 0, () -> x.spares(1));
            })
            .test("(those that are now, too)", () -> {
                CellTrays x = Trays.withKinds(32);
                Trays.putMany(x, 0, 6);
                Trays.takeAll(x, 0, 1);
                Check.due("an empty one, full ones", 1, () -> x.spares(0));
                Trays.takeAll(x, 2, 4);
                Check.due("and one by moving", 2, () -> x.spares(0));
                x.take(3);
                Check.due("one went, one is empty", 1, () -> x.spares(0));
                x.take(5);
                Check.due("only an empty one", 1, () -> x.spares(0));
                x.sweep();
                Check.due("none", 0, () -> x.spares(0));
            })
            .test("if its things were moved together as pack() does it", () -> {
                CellTrays x = Trays.withKinds(9);
                Trays.putMany(x, 0, 140);
                for (int place = 0; place < 20; place++) {
                    Trays.takeRange(x, place * 7 + 1 + place % 3, place * 7 + 7);
                }
                // 7 with 1, 7 with 2 and 6 with 3 are 39 things, which need 6 trays of 7.
                Check.due("before", 14, () -> x.spares(0));
                x.pack(0);
                Check.due("as many are empty then", 14, () -> x.about(0, 3));
                Check.due("after", 14, () -> x.spares(0));
            })
            .test("(nothing is changed)", () -> {
                CellTrays x = Trays.withKinds(32);
                Trays.putMany(x, 0, 6);
                Trays.takeAll(x, 0, 2, 4);
                long before = x.digest();
                Check.due("one by moving", 1, () -> x.spares(0));
                Check.due("digest", before, x::digest);
                Check.due("nothing is moved", 0, () -> x.count(6));
                Check.due("a thing's place", 2, () -> x.told(5, 1));
            })
            .test("there is no such kind", () -> {
                CellTrays none = new CellTrays();
                Check.fails("spares(0) without kinds", Check.INDEX, () -> none.spares(0));
                CellTrays x = Trays.withKinds(8, 8);
                for (int kind : Trays.outside(0, 1)) {
                    Check.fails("spares(" + kind + ")", Check.INDEX, () -> x.spares(kind));
                }
                Check.due("the last kind", 0, () -> x.spares(1));
            })
            .end();
    }

    // ---- room

    private static void room() {
        new Edges("Promise 14: room")
            .test("into free cells of its trays", () -> {
                CellTrays x = Trays.withKinds(24, 16);
                Trays.putMany(x, 0, 39);
                Check.due("the last free cell", 1, () -> x.room(0));
                Check.due("not another kind's", 0, () -> x.room(1));
                Trays.takeAll(x, 0, 1, 2);
                Check.due("of an empty one, of partly taken ones", 4, () -> x.room(0));
                Check.due("not another kind's", 0, () -> x.room(1));
            })
            .test("and into new trays at all places where there is none", () -> {
                for (int size = 1; size <= 32; size++) {
                    CellTrays x = Trays.withKinds(size, 32);
                    int cells = 64 / size;
                    Check.due("20 trays of size " + size, 20 * cells, () -> x.room(0));
                    Trays.putMany(x, 1, 37);
                    Check.due("the last place, size " + size, cells, () -> x.room(0));
                    x.put(0);
                    Check.due("one less, size " + size, cells - 1, () -> x.room(0));
                }
            })
            .test("till there is no room", () -> {
                CellTrays x = Trays.withKinds(20, 31);
                Trays.putMany(x, 0, 10);
                Trays.putMany(x, 1, 7);
                Trays.takeAll(x, 3, 4, 5, 8, 11);
                int room = x.room(0);
                Check.due("room", 12 * 3 + 3 + 1 + 2, () -> room);
                Trays.putMany(x, 0, room);
                Check.due("none then", 0, () -> x.room(0));
                Check.fails("one more", Check.STATE, () -> x.put(0));
            })
            .test("(however many things there were; nothing is changed)", () -> {
                CellTrays x = Trays.withKinds(1, 32);
                Check.due("more than 150", 1280, () -> x.room(0));
                Trays.putMany(x, 0, 150);
                long before = x.digest();
                Check.due("after the 150th", 1130, () -> x.room(0));
                Check.due("of another kind", 34, () -> x.room(1));
                Check.due("digest", before, x::digest);
                Trays.takeRange(x, 0, 64);
                Check.due("an empty one's cells", 1194, () -> x.room(0));
            })
            .test("there is no such kind", () -> {
                CellTrays none = new CellTrays();
                Check.fails("room(0) without kinds", Check.INDEX, () -> none.room(0));
                CellTrays x = Trays.withKinds(8, 8);
                for (int kind : Trays.outside(0, 1)) {
                    Check.fails("room(" + kind + ")", Check.INDEX, () -> x.room(kind));
                }
                Check.due("the last kind", 160, () -> x.room(1));
            })
            .end();
    }

    // ---- worst, mean

    private static void worst() {
        new Edges("Promise 15: worst")
            .test("Returns the kind of whose trays the most is wasted, added", () -> {
                CellTrays x = Trays.withKinds(32, 16, 32);
                x.put(1);
                Check.due("the only one with trays", 1, x::worst);
                Trays.putMany(x, 0, 3);
                Check.due("0 and 32, 48", 1, x::worst);
                x.take(1);
                Check.due("32 and 32, 48", 0, x::worst);
                Trays.putMany(x, 2, 2);
                Trays.takeAll(x, 4, 5);
                Check.due("64, 48, 64", 0, x::worst);
                x.put(0);
                Check.due("32 and 0, 48, 64", 2, x::worst);
            })
            .test("of several the one with the smallest number", () -> {
                CellTrays x = Trays.withKinds(32, 16, 32, 16);
                Check.due("nothing of all", 0, x::worst);
                Trays.putMany(x, 0, 2);
                Check.due("nothing of all, with a tray", 0, x::worst);
                x.put(3);
                x.put(1);
                Check.due("48 of 1 and 3", 1, x::worst);
                x.put(1);
                Check.due("32 of 1, 48 of 3", 3, x::worst);
                Trays.takeAll(x, 0, 1);
                x.take(2);
                Check.due("64 of 0 and 3", 0, x::worst);
            })
            .test("-1 without kinds", () -> {
                CellTrays x = new CellTrays();
                Check.due("a new one", -1, x::worst);
                Check.fails("a refused kind", Check.ILLEGAL, () -> x.kind(0, 1));
                Check.due("is none", -1, x::worst);
                x.kind(32, 1);
                Check.due("a kind without trays", 0, x::worst);
            })
            .end();
    }

    private static void mean() {
        new Edges("Promise 16: mean")
            .test("Returns the mean number of things of all trays", () -> {
                CellTrays x = Trays.withKinds(32, 1);
                Trays.putMany(x, 0, 3);
                Check.due("not cut", 1.5, x::mean);
                Trays.putMany(x, 1, 64);
                Check.due("of all kinds", 67.0 / 3, x::mean);
                Trays.takeAll(x, 0, 1);
                Check.due("an empty one counts", 65.0 / 3, x::mean);
                x.sweep();
                Check.due("one that went doesn't", 32.5, x::mean);
            })
            .test("0 without trays", () -> {
                CellTrays x = new CellTrays();
                Check.due("a new one", 0.0, x::mean);
                x.kind(32, 1);
                Check.due("a kind alone", 0.0, x::mean);
                x.put(0);
                x.take(0);
                Check.due("an empty one alone", 0.0, x::mean);
                x.sweep();
                Check.due("swept", 0.0, x::mean);
            })
            .end();
    }

    // ---- digest

    private static void digest() {
        new Edges("Promise 17: digest")
            .test("A number d starts with 1381", () -> {
                long d = 1381;
                for (int zero = 0; zero < 7; zero++) {
                    d = d * 31;
                }
                for (int nothing = 0; nothing < 20 * 5; nothing++) {
                    d = d * 31 - 1;
                }
                Check.due("a new one", d, () -> new CellTrays().digest());
            })
            .test("which wraps around as a 64-bit integer", () -> {
                CellTrays x = allKindsOfTrays();
                Check.due("before pack()", digestOf(x), x::digest);
                CellTrays y = allKindsOfTrays();
                y.pack(5);
                Check.due("after pack()", digestOf(y), y::digest);
            })
            .test("for each kind what about() tells, in its order", () -> {
                CellTrays x = Trays.withKinds(1, 2, 3, 4, 5, 6);
                Check.due("6 kinds without trays", digestOf(x), x::digest);
            })
            .test("if there is a tray, the thing of each cell, as cell() tells it", () -> {
                CellTrays x = Trays.withKinds(16);
                Trays.putMany(x, 0, 8);
                Check.due("full ones", digestOf(x), x::digest);
                Trays.takeAll(x, 0, 1, 2, 3);
                Check.due("an empty one has its free cells", digestOf(x), x::digest);
                Trays.takeAll(x, 4, 5, 6, 7);
                Check.due("one that went has none", digestOf(x), x::digest);
                CellTrays y = Trays.withKinds(32);
                Trays.putMany(y, 0, 40);
                Check.due("the last place", digestOf(y), y::digest);
            })
            .end();
    }

    private static CellTrays allKindsOfTrays() {
        CellTrays x = Trays.withKinds(1, 7, 9, 16, 24, 32);
        for (int kind = 0; kind < 6; kind++) {
            Trays.putMany(x, kind, 10);
        }
        Trays.takeAll(x, 3, 12, 51, 53, 58, 59);
        return x;
    }

    /** What the calls tell, added up without bounds, and cut to 64 bits at the end; some 330 calls at most. */
    private static long digestOf(CellTrays x) {
        StringBuilder told = new StringBuilder(allCounts(x));
        int kinds = x.count(0);
        for (int kind = 0; kind < kinds; kind++) {
            told.append(' ').append(allAbout(x, kind));
        }
        for (int place = 0; place < 20; place++) {
            told.append(' ').append(allOfTray(x, place));
            if (x.tray(place, 0) >= 0) {
                told.append(' ').append(Trays.cells(x, place));
            }
        }
        BigInteger d = BigInteger.valueOf(1381);
        for (String number : told.toString().split(" ")) {
            d = d.multiply(BigInteger.valueOf(31)).add(new BigInteger(number));
        }
        return d.longValue();
    }
}
