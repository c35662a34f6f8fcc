/** Runs of calls that the tests need often, and what an object shows, as a text. */
final class Trays {
    private Trays() {
    }

    /** Kinds of these sizes, each of step 1. */
    static CellTrays withKinds(int... sizes) {
        CellTrays x = new CellTrays();
        for (int size : sizes) {
            x.kind(size, 1);
        }
        return x;
    }

    static void putMany(CellTrays x, int kind, int times) {
        for (int i = 0; i < times; i++) {
            x.put(kind);
        }
    }

    static void takeAll(CellTrays x, int... things) {
        for (int thing : things) {
            x.take(thing);
        }
    }

    /** The things from the first one up to the one before the end. */
    static void takeRange(CellTrays x, int first, int end) {
        for (int thing = first; thing < end; thing++) {
            x.take(thing);
        }
    }

    /** How many things are in the tray at each of the first places, -1 without a tray. */
    static String things(CellTrays x, int places) {
        StringBuilder told = new StringBuilder();
        for (int place = 0; place < places; place++) {
            told.append(place == 0 ? "" : " ").append(x.tray(place, 3));
        }
        return told.toString();
    }

    /** The thing in each cell of the tray there, -1 in a free one. */
    static String cells(CellTrays x, int place) {
        StringBuilder told = new StringBuilder();
        int cells = x.tray(place, 2);
        for (int cell = 0; cell < cells; cell++) {
            told.append(cell == 0 ? "" : " ").append(x.cell(place, cell));
        }
        return told.toString();
    }

    /**
     * Numbers outside of these bounds: just outside, far outside, and such as come back inside when
     * they are multiplied by 64 and wrap around.
     */
    static int[] outside(int first, int last) {
        return new int[] {
            first - 1, last + 1, first - 64, last + 64, Integer.MIN_VALUE, Integer.MAX_VALUE,
            Integer.MIN_VALUE + 1, Integer.MAX_VALUE - 1, 1 << 26, 1 << 30, -(1 << 26)};
    }
}
