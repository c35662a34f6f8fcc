/** What the document says ahead of its promises: each boundary that it names, with a test of its own. */
public final class TermsEdgesTest {
    public static void main(String[] args) {
        new Edges("What it is")
            .test("An object is used for at most 512 calls after it has been made", TermsEdgesTest::lastCall)
            .end();
        Edges terms = new Edges("Terms");
        kinds(terms);
        trays(terms);
        offsets(terms);
        putting(terms);
        taking(terms);
        refusing(terms);
        terms.end();
        Check.end();
    }

    private static void lastCall() {
        Check.due("the 512th call, kind", 2, () -> afterCalls(511).kind(1, 1));
        Check.fails("the 512th call, a wrong kind", Check.ILLEGAL, () -> afterCalls(511).kind(33, 1));
        Check.due("the 512th call, put", 16, () -> afterCalls(511).put(1));
        Check.fails("the 512th call, a wrong put", Check.INDEX, () -> afterCalls(511).put(2));
        Check.due("the 512th call, take", true, () -> afterCalls(511).take(11));
        Check.fails("the 512th call, a wrong take", Check.STATE, () -> afterCalls(511).take(12));
        Check.due("the 512th call, sweep", 1, () -> afterCalls(511).sweep());
        Check.due("the 512th call, pack", 2, () -> afterCalls(511).pack(0));
        Check.due("the 512th call, digest", afterCalls(29).digest(), () -> afterCalls(511).digest());
    }

    /** Four trays of kind 0 with 2, 2, 1 and 0 things in them, after so many calls, at least 29. */
    private static CellTrays afterCalls(int calls) {
        CellTrays x = Trays.withKinds(16, 16);
        Trays.putMany(x, 0, 16);
        Trays.takeAll(x, 0, 1, 4, 5, 8, 9, 10, 12, 13, 14, 15);
        for (int call = 2 + 16 + 11; call < calls; call++) {
            x.mean();
        }
        return x;
    }

    // ---- kinds

    private static void kinds(Edges terms) {
        terms
            .test("There are at most 6, numbered from 0 in the order of their telling", () -> {
                CellTrays x = new CellTrays();
                for (int kind = 0; kind < 6; kind++) {
                    int k = kind;
                    Check.due("kind " + k, k, () -> x.kind(32 - k, 1));
                }
                Check.fails("one more", Check.STATE, () -> x.kind(1, 1));
                Check.due("kinds", 6, () -> x.count(0));
                Check.due("the last one's size", 27, () -> x.about(5, 0));
                Check.due("the last one is used", 0, () -> x.put(5));
            })
            .test("each has a size, 1 to 32, and a step, 1 to 16", () -> {
                for (int size = 1; size <= 32; size++) {
                    for (int step = 1; step <= 16; step++) {
                        int s = size;
                        int t = step;
                        CellTrays x = new CellTrays();
                        Check.due("kind(" + s + ", " + t + ")", 0, () -> x.kind(s, t));
                        Check.due("its size " + s, s, () -> x.about(0, 0));
                        Check.due("its step " + t, t, () -> x.about(0, 1));
                    }
                }
            });
    }

    // ---- trays and cells

    private static void trays(Edges terms) {
        terms
            .test("Each tray is 64 wide", () -> {
                CellTrays x = Trays.withKinds(1, 32);
                Trays.putMany(x, 0, 65);
                Check.due("the 64th begins at", 63, () -> x.told(63, 4));
                Check.due("the 65th begins at", 64, () -> x.told(64, 4));
                Trays.putMany(x, 1, 3);
                Check.due("two of size 32 fill it", 0, () -> x.tray(2, 4));
                Check.due("the third is in the next", 3, () -> x.told(67, 1));
            })
            .test("/ is cut towards 0", () -> {
                int[] cells = {
                    64, 32, 21, 16, 12, 10, 9, 8, 7, 6, 5, 5, 4, 4, 4, 4,
                    3, 3, 3, 3, 3, 2, 2, 2, 2, 2, 2, 2, 2, 2, 2, 2};
                for (int size = 1; size <= 32; size++) {
                    int due = cells[size - 1];
                    CellTrays x = Trays.withKinds(size);
                    x.put(0);
                    Check.due("cells of size " + size, due, () -> x.tray(0, 2));
                    Trays.putMany(x, 0, due - 1);
                    Check.due("the last cell of size " + size, due - 1, () -> x.cell(0, due - 1));
                    Check.due("full, of size " + size, 1, () -> x.about(0, 4));
                    x.put(0);
                    Check.due("one more of size " + size, 1, () -> x.told(due, 1));
                }
            })
            .test("There are places for 20, 0 to 19", () -> {
                CellTrays x = Trays.withKinds(32);
                for (int thing = 0; thing < 40; thing++) {
                    int t = thing;
                    x.put(0);
                    Check.due("place of " + t, t / 2, () -> x.told(t, 1));
                }
                Check.due("trays", 20, () -> x.count(1));
                Check.fails("a 21st tray", Check.STATE, () -> x.put(0));
                Check.due("the last place", "38 39", () -> Trays.cells(x, 19));
            })
            .test("at a place there is a tray of a kind, or none (none, at first)", () -> {
                CellTrays x = Trays.withKinds(32);
                Check.due("none", -1, () -> x.tray(0, 0));
                x.put(0);
                Check.due("a tray", 0, () -> x.tray(0, 0));
                Check.due("none beside it", -1, () -> x.tray(1, 0));
                x.take(0);
                x.sweep();
                Check.due("none again", -1, () -> x.tray(0, 0));
            })
            .test("the cell k has its beginning at offset + k * size", () -> {
                CellTrays x = new CellTrays();
                x.kind(24, 16);
                Trays.putMany(x, 0, 4);
                Check.due("the first cell", 16, () -> x.told(2, 3));
                Check.due("the last cell, which ends at 64", 40, () -> x.told(3, 3));
                CellTrays y = new CellTrays();
                y.kind(5, 4);
                Trays.putMany(y, 0, 24);
                Check.due("the last of 12 cells, which ends at 64", 59, () -> y.told(23, 3));
            })
            .test("Each cell has a thing, or is free", () -> {
                CellTrays x = Trays.withKinds(16);
                x.put(0);
                Check.due("one", "0 -1 -1 -1", () -> Trays.cells(x, 0));
                Trays.putMany(x, 0, 3);
                Check.due("all", "0 1 2 3", () -> Trays.cells(x, 0));
                Trays.takeAll(x, 0, 3, 1, 2);
                Check.due("none", "-1 -1 -1 -1", () -> Trays.cells(x, 0));
            })
            .test("A tray is empty without a thing, full with no free cell, otherwise partly taken", () -> {
                CellTrays x = Trays.withKinds(20);
                x.put(0);
                Check.due("with 1 of 3", "0 0", () -> x.about(0, 3) + " " + x.about(0, 4));
                x.put(0);
                Check.due("with 2 of 3", "0 0", () -> x.about(0, 3) + " " + x.about(0, 4));
                x.put(0);
                Check.due("with 3 of 3", "0 1", () -> x.about(0, 3) + " " + x.about(0, 4));
                Trays.takeAll(x, 0, 1);
                Check.due("with 1 of 3 again", "0 0", () -> x.about(0, 3) + " " + x.about(0, 4));
                x.take(2);
                Check.due("with 0 of 3", "1 0", () -> x.about(0, 3) + " " + x.about(0, 4));
            });
    }

    // ---- offsets

    private static void offsets(Edges terms) {
        terms
            .test("Offset of a new tray: 0 for the first one of a kind", () -> {
                CellTrays x = new CellTrays();
                x.kind(24, 16);
                x.kind(24, 16);
                x.put(0);
                x.put(1);
                Check.due("of kind 0", 0, () -> x.tray(0, 1));
                Check.due("of kind 1", 0, () -> x.tray(1, 1));
            })
            .test("for each further one the step of the kind more than for the one before it of this kind", () -> {
                CellTrays x = new CellTrays();
                x.kind(24, 5);
                x.kind(25, 7);
                Trays.putMany(x, 0, 2);
                Trays.putMany(x, 1, 4);
                Trays.putMany(x, 0, 3);
                Check.due("the second of kind 1", 7, () -> x.tray(2, 1));
                Check.due("the second of kind 0", 5, () -> x.tray(3, 1));
                Check.due("the third of kind 0", 10, () -> x.tray(4, 1));
            })
            .test("(whether that still is there or not)", () -> {
                CellTrays x = new CellTrays();
                x.kind(24, 5);
                x.put(0);
                x.take(0);
                x.sweep();
                x.put(0);
                Check.due("after the first one was swept", 5, () -> x.tray(0, 1));
                Trays.putMany(x, 0, 2);
                Trays.takeAll(x, 1, 2);
                Check.due("the third one goes", true, () -> x.take(3));
                Trays.putMany(x, 0, 3);
                Check.due("after that", 15, () -> x.tray(1, 1));
            })
            .test("but 0 again, if this was greater than 64 % size", () -> {
                // 64 % 24 is 16, 64 % 25 is 14, 64 % 32 is 0.
                Check.due("16 is not greater than 16", 16, () -> offsetAfter(24, 8, 2));
                Check.due("24 is", 0, () -> offsetAfter(24, 8, 3));
                Check.due("then it goes on", 8, () -> offsetAfter(24, 8, 4));
                Check.due("a step of just what is left", 16, () -> offsetAfter(24, 16, 1));
                Check.due("14 is not greater than 14", 14, () -> offsetAfter(25, 14, 1));
                Check.due("15 is", 0, () -> offsetAfter(25, 15, 1));
                Check.due("nothing is left of size 32", 0, () -> offsetAfter(32, 1, 1));
                Check.due("nothing is left of size 1", 0, () -> offsetAfter(1, 1, 2));
            })
            .test("the offset is never greater than what is left of 64 by them", () -> {
                for (int size = 1; size <= 32; size++) {
                    for (int step = 1; step <= 16; step++) {
                        fortyOffsets(size, step);
                    }
                }
            });
    }

    private static int offsetAfter(int size, int step, int trays) {
        CellTrays x = new CellTrays();
        x.kind(size, step);
        Trays.putMany(x, 0, trays * (64 / size) + 1);
        return x.tray(trays, 1);
    }

    /** They come round: as many different ones as fit into what is left. */
    private static void fortyOffsets(int size, int step) {
        CellTrays x = new CellTrays();
        x.kind(size, step);
        int different = 64 % size / step + 1;
        for (int tray = 0; tray < 40; tray++) {
            int t = tray;
            x.put(0);
            Check.due("size " + size + ", step " + step + ", tray " + t, t % different * step, () -> x.told(t, 3));
            x.take(t);
            x.sweep();
        }
    }

    // ---- putting

    private static void putting(Edges terms) {
        terms
            .test("into the partly taken tray of this kind with the most things", () -> {
                CellTrays x = Trays.withKinds(16, 16);
                Trays.putMany(x, 0, 16);
                Trays.takeAll(x, 4, 5, 6, 8, 9, 12, 13, 14, 15);
                Check.due("a full one, 1, 2, an empty one", "4 1 2 0", () -> Trays.things(x, 4));
                x.put(0);
                Check.due("not the full one, nor the first", "4 1 3 0", () -> Trays.things(x, 4));
                x.put(1);
                x.put(1);
                x.put(1);
                x.take(7);
                Check.due("the one at 1 goes", "4 -1 3 0", () -> Trays.things(x, 4));
                x.take(10);
                x.put(0);
                Check.due("not another kind's", "4 -1 3 0 3", () -> Trays.things(x, 5));
            })
            .test("of several that at the smallest place", () -> {
                CellTrays x = Trays.withKinds(16);
                Trays.putMany(x, 0, 16);
                Trays.takeAll(x, 0, 1, 4, 8, 12);
                Check.due("2 3 3 3", "2 3 3 3", () -> Trays.things(x, 4));
                x.put(0);
                Check.due("at 1", "2 4 3 3", () -> Trays.things(x, 4));
                x.put(0);
                Check.due("at 2", "2 4 4 3", () -> Trays.things(x, 4));
            })
            .test("without one into the empty tray of this kind at the smallest place", () -> {
                CellTrays x = twoEmptyOnes();
                Check.due("no tray, two empty ones, a full one", "-1 0 0 4", () -> Trays.things(x, 4));
                x.put(0);
                Check.due("not the bare place, nor the last empty one", "-1 1 0 4", () -> Trays.things(x, 4));
                CellTrays y = Trays.withKinds(32, 32);
                y.put(1);
                y.take(0);
                y.put(0);
                Check.due("not another kind's", "0 1", () -> Trays.things(y, 2));
            })
            .test("without one into a new tray of this kind at the smallest place where there is none", () -> {
                CellTrays x = Trays.withKinds(32, 32);
                Trays.putMany(x, 0, 8);
                Trays.takeAll(x, 2, 3, 4, 5);
                x.sweep();
                Check.due("bare at 1 and 2", "2 -1 -1 2", () -> Trays.things(x, 4));
                x.put(0);
                x.put(1);
                Check.due("the first, then the next", "2 1 1 2", () -> Trays.things(x, 4));
                Check.due("its kind", 1, () -> x.tray(2, 0));
                x.put(1);
                x.put(1);
                Check.due("behind the last", 4, () -> x.told(11, 1));
            })
            .test("There into the free cell with the smallest number", () -> {
                CellTrays x = Trays.withKinds(16);
                Trays.putMany(x, 0, 4);
                Trays.takeAll(x, 3, 1);
                x.put(0);
                Check.due("cell 1 before cell 3", "0 4 2 -1", () -> Trays.cells(x, 0));
                x.put(0);
                Check.due("then the last one", "0 4 2 5", () -> Trays.cells(x, 0));
                x.take(0);
                x.put(0);
                Check.due("the first one", "6 4 2 5", () -> Trays.cells(x, 0));
            })
            .test("Things are numbered from 0 in the order of their putting; there are at most 150 in all", () -> {
                CellTrays x = Trays.withKinds(2, 1);
                for (int thing = 0; thing < 150; thing++) {
                    int t = thing;
                    Check.due("thing " + t, t, () -> x.put(t % 2));
                    // A thing that was taken out leaves its number unused.
                    if (t % 3 == 0) {
                        x.take(t);
                    }
                }
                Check.fails("one more", Check.STATE, () -> x.put(0));
                Check.due("things in all", 150, () -> x.count(3));
                Check.due("things that are there", 100, () -> x.count(2));
            });
    }

    /** No tray at 0, empty ones of kind 0 at 1 and 2, a full one at 3. */
    private static CellTrays twoEmptyOnes() {
        CellTrays x = Trays.withKinds(16, 32);
        Trays.putMany(x, 1, 2);
        Trays.putMany(x, 0, 12);
        x.put(1);
        Trays.takeAll(x, 14, 0, 1);
        Trays.takeAll(x, 2, 3, 4, 6, 7, 8, 10, 11);
        x.pack(0);
        return x;
    }

    // ---- taking

    private static void taking(Edges terms) {
        terms
            .test("its cell is free then", () -> {
                CellTrays x = Trays.withKinds(20);
                Trays.putMany(x, 0, 3);
                x.take(1);
                Check.due("in the middle", "0 -1 2", () -> Trays.cells(x, 0));
                Check.due("a free cell more", 1, () -> x.about(0, 6));
                x.take(2);
                x.take(0);
                Check.due("the first and the last", "-1 -1 -1", () -> Trays.cells(x, 0));
            })
            .test("If its tray is empty by that, and there is another empty one of this kind, "
                + "its own tray goes (not the other one)", () -> {
                CellTrays x = Trays.withKinds(32, 32);
                Trays.putMany(x, 1, 1);
                Trays.putMany(x, 0, 6);
                x.take(0);
                Trays.takeAll(x, 3, 4);
                Check.due("another kind's empty one is no other", "0 2 0 2", () -> Trays.things(x, 4));
                x.take(5);
                Check.due("its tray is not empty", "0 2 0 1", () -> Trays.things(x, 4));
                x.take(6);
                Check.due("its own at the greater place", "0 2 0 -1", () -> Trays.things(x, 4));
                Trays.takeAll(x, 1, 2);
                Check.due("its own at the smaller place", "0 -1 0 -1", () -> Trays.things(x, 4));
                Check.due("two went", 2, () -> x.count(5));
            })
            .test("there is none at its place any more", () -> {
                CellTrays x = Trays.withKinds(32, 16);
                Trays.putMany(x, 0, 4);
                Trays.takeAll(x, 0, 1, 2, 3);
                for (int what = 0; what <= 4; what++) {
                    int w = what;
                    Check.due("tray(1, " + w + ")", -1, () -> x.tray(1, w));
                }
                Check.fails("cell(1, 0)", Check.INDEX, () -> x.cell(1, 0));
                Check.due("trays", 1, () -> x.count(1));
                x.put(1);
                Check.due("a new one starts with free cells", "4 -1 -1 -1", () -> Trays.cells(x, 1));
                Check.due("and of its own kind", 1, () -> x.tray(1, 0));
            });
    }

    // ---- exceptions

    private static void refusing(Edges terms) {
        terms
            .test("A method that throws an exception changes nothing", () -> {
                for (int state = 0; state < 5; state++) {
                    CellTrays x = inState(state);
                    CellTrays twin = inState(state);
                    refuseAll(x);
                    compareWithTwin(x, twin, state);
                }
            })
            .test("If several exceptions apply, the one that is named first is thrown", () -> {
                CellTrays x = Trays.withKinds(1, 2, 3, 4, 5, 6);
                Check.fails("a wrong size, and there are 6", Check.ILLEGAL, () -> x.kind(33, 1));
                Check.fails("a wrong step, and there are 6", Check.ILLEGAL, () -> x.kind(1, 17));
                Check.fails("both, and there are 6", Check.ILLEGAL, () -> x.kind(0, 0));
                Check.fails("only that there are 6", Check.STATE, () -> x.kind(32, 16));
                Trays.putMany(x, 0, 150);
                Check.fails("no such kind, and there were 150", Check.INDEX, () -> x.put(6));
                Check.fails("no kind below 0, and there were 150", Check.INDEX, () -> x.put(-1));
                Check.fails("only that there were 150", Check.STATE, () -> x.put(5));
                CellTrays y = Trays.withKinds(32);
                Trays.putMany(y, 0, 40);
                Check.fails("no such kind, and no room", Check.INDEX, () -> y.put(1));
                Check.fails("only that there is no room", Check.STATE, () -> y.put(0));
            });
    }

    /** 0 new, 1 a kind alone, 2 six kinds with all kinds of trays, 3 no room, 4 150 things. */
    private static CellTrays inState(int state) {
        if (state == 0) {
            return new CellTrays();
        }
        if (state == 1) {
            return Trays.withKinds(7);
        }
        if (state == 2) {
            CellTrays x = Trays.withKinds(16, 24, 9, 5, 32, 1);
            Trays.putMany(x, 0, 12);
            Trays.putMany(x, 1, 5);
            Trays.putMany(x, 2, 3);
            Trays.putMany(x, 4, 2);
            Trays.takeAll(x, 0, 1, 2, 3, 5, 20, 21);
            return x;
        }
        // The kinds in use have a next offset other than 0, so that its loss is seen.
        CellTrays x = state == 3 ? Trays.withKinds(31, 29, 3, 4, 5, 6) : Trays.withKinds(3, 5, 7, 1, 2, 4);
        Trays.putMany(x, 0, state == 3 ? 28 : 100);
        Trays.putMany(x, 1, state == 3 ? 12 : 45);
        Trays.putMany(x, 2, state == 3 ? 0 : 5);
        x.take(3);
        return x;
    }

    private static void refuseAll(CellTrays x) {
        int kinds = x.count(0);
        int things = x.count(3);
        Check.fails("kind, size", Check.ILLEGAL, () -> x.kind(33, 1));
        Check.fails("kind, step", Check.ILLEGAL, () -> x.kind(1, 0));
        if (kinds == 6) {
            Check.fails("kind", Check.STATE, () -> x.kind(1, 1));
        }
        for (int wrong : new int[] {-1, kinds}) {
            Check.fails("put", Check.INDEX, () -> x.put(wrong));
            Check.fails("pack", Check.INDEX, () -> x.pack(wrong));
            Check.fails("about", Check.INDEX, () -> x.about(wrong, 0));
            Check.fails("would", Check.INDEX, () -> x.would(wrong));
            Check.fails("spares", Check.INDEX, () -> x.spares(wrong));
            Check.fails("room", Check.INDEX, () -> x.room(wrong));
        }
        for (int kind = 1; kind < 6 && things >= 40; kind++) {
            int full = kind;
            Check.fails("put", Check.STATE, () -> x.put(full));
        }
        if (things > 0) {
            Check.fails("take", Check.STATE, () -> x.take(3));
        }
        for (int wrong : new int[] {-1, things}) {
            Check.fails("take", Check.INDEX, () -> x.take(wrong));
            Check.fails("told", Check.INDEX, () -> x.told(wrong, 0));
        }
        for (int wrong : new int[] {-1, 20}) {
            Check.fails("tray", Check.INDEX, () -> x.tray(wrong, 0));
            Check.fails("tray", Check.INDEX, () -> x.tray(0, wrong));
            Check.fails("cell", Check.INDEX, () -> x.cell(wrong, 0));
            Check.fails("cell", Check.INDEX, () -> x.cell(19, wrong));
            Check.fails("count", Check.INDEX, () -> x.count(wrong));
        }
    }

    private static void compareWithTwin(CellTrays x, CellTrays twin, int state) {
        String at = "state " + state + ", ";
        Check.due(at + "digest()", twin.digest(), x::digest);
        int things = twin.count(3);
        for (int thing = 0; thing < things; thing++) {
            int t = thing;
            Check.due(at + "told(" + t + ", 4)", twin.told(t, 4), () -> x.told(t, 4));
        }
        for (int kind = 0; kind < twin.count(0); kind++) {
            int k = kind;
            Check.due(at + "would(" + k + ")", twin.would(k), () -> x.would(k));
            Check.due(at + "room(" + k + ")", twin.room(k), () -> x.room(k));
        }
        Check.compare(at + "put(0)", Check.answerOf(() -> twin.put(0)), Check.answerOf(() -> x.put(0)));
        Check.compare(at + "kind(1, 1)", Check.answerOf(() -> twin.kind(1, 1)), Check.answerOf(() -> x.kind(1, 1)));
        Check.due(at + "digest() after that", twin.digest(), x::digest);
    }
}
