/** Many runs of 512 calls, right and wrong ones, each answered by the program and by the model. */
public final class ModelTest {
    private static final int RUNS = 3000;
    private static final int CALLS = 512;
    private static final int[] EXTREMES = {
        Integer.MIN_VALUE, Integer.MIN_VALUE + 1, -64, -2, -1,
        64, 150, 1280, Integer.MAX_VALUE - 1, Integer.MAX_VALUE};

    private long seed;
    private final CellTrays trays = new CellTrays();
    private final Model model = new Model();

    private ModelTest(int run) {
        seed = run * 7919L + 1;
    }

    public static void main(String[] args) {
        for (int run = 0; run < RUNS; run++) {
            new ModelTest(run).go(run);
        }
        Check.end();
    }

    private void go(int run) {
        // Each run leans to other calls and sizes, so that some fill all and some stay near empty.
        int puts = 1 + below(12);
        int takes = below(12);
        int greatest = 1 + below(33);
        int kinds = 1 + below(7);
        for (int call = 1; call < CALLS; call++) {
            String at = "run " + run + ", call " + call + ": ";
            if (call <= kinds || below(80) == 0) {
                tellKind(at, greatest);
            } else {
                int chosen = below(puts + takes + 14);
                if (chosen < puts) {
                    putOne(at);
                } else if (chosen < puts + takes) {
                    takeOne(at);
                } else {
                    other(at, chosen - puts - takes);
                }
            }
        }
        same("run " + run + ": digest()", trays::digest, model::digest);
    }

    private void tellKind(String at, int greatest) {
        int size = wild() ? extreme(0, 33) : 1 + below(greatest);
        int step = wild() ? extreme(0, 17) : 1 + below(below(2) == 0 ? 4 : 16);
        same(at + "kind(" + size + ", " + step + ")", () -> trays.kind(size, step), () -> model.kind(size, step));
    }

    private void putOne(String at) {
        int kind = anyKind();
        same(at + "put(" + kind + ")", () -> trays.put(kind), () -> model.put(kind));
    }

    private void takeOne(String at) {
        int thing = anyThing();
        same(at + "take(" + thing + ")", () -> trays.take(thing), () -> model.take(thing));
    }

    private void other(String at, int chosen) {
        int kind = anyKind();
        int thing = anyThing();
        int place = wild() ? extreme(-1, 20) : below(20);
        switch (chosen) {
            case 0:
                if (below(4) == 0) {
                    same(at + "sweep()", trays::sweep, model::sweep);
                }
                break;
            case 1:
                if (below(3) == 0) {
                    same(at + "pack(" + kind + ")", () -> trays.pack(kind), () -> model.pack(kind));
                }
                break;
            case 2:
            case 3:
                int toldWhat = what(4);
                same(at + "told(" + thing + ", " + toldWhat + ")",
                    () -> trays.told(thing, toldWhat), () -> model.told(thing, toldWhat));
                break;
            case 4:
                int trayWhat = what(4);
                same(at + "tray(" + place + ", " + trayWhat + ")",
                    () -> trays.tray(place, trayWhat), () -> model.tray(place, trayWhat));
                break;
            case 5:
                int cell = wild() ? extreme(-1, 64) : below(below(2) == 0 ? 4 : 65);
                int near = below(2) == 0 ? place : below(4);
                same(at + "cell(" + near + ", " + cell + ")",
                    () -> trays.cell(near, cell), () -> model.cell(near, cell));
                break;
            case 6:
                int aboutWhat = what(7);
                same(at + "about(" + kind + ", " + aboutWhat + ")",
                    () -> trays.about(kind, aboutWhat), () -> model.about(kind, aboutWhat));
                break;
            case 7:
                int countWhat = what(6);
                same(at + "count(" + countWhat + ")", () -> trays.count(countWhat), () -> model.count(countWhat));
                break;
            case 8:
                same(at + "would(" + kind + ")", () -> trays.would(kind), () -> model.would(kind));
                break;
            case 9:
                same(at + "spares(" + kind + ")", () -> trays.spares(kind), () -> model.spares(kind));
                break;
            case 10:
                same(at + "room(" + kind + ")", () -> trays.room(kind), () -> model.room(kind));
                break;
            case 11:
                same(at + "worst()", trays::worst, model::worst);
                break;
            case 12:
                same(at + "mean()", trays::mean, model::mean);
                break;
            default:
                same(at + "digest()", trays::digest, model::digest);
                break;
        }
    }

    private void same(String call, Check.Call got, Check.Call want) {
        Check.compare(call, Check.answerOf(want), Check.answerOf(got));
    }

    private int anyKind() {
        return wild() ? extreme(-1, model.count(0)) : below(Math.max(1, model.count(0)));
    }

    private int anyThing() {
        return wild() ? extreme(-1, model.count(3)) : below(Math.max(1, model.count(3)));
    }

    private int what(int last) {
        return wild() ? extreme(-1, last + 1) : below(last + 1);
    }

    private boolean wild() {
        return below(25) == 0;
    }

    /** Just below, just above, or far away. */
    private int extreme(int below, int above) {
        int chosen = below(4);
        return chosen == 0 ? below : chosen == 1 ? above : EXTREMES[below(EXTREMES.length)];
    }

    private int below(int bound) {
        seed = seed * 6364136223846793005L + 1442695040888963407L;
        return (int) ((seed >>> 33) % bound);
    }
}
