/** Long runs of mixed calls, of 512 at most, whose answers are those of the model. */
public final class ModelTest {
    private static final int RUNS = 4000, CALLS = 512;
    private static final int[] EDGES =
        {-1, -2, 2, 3, 19, 20, 59, 60, 99, 100, 600, 601, 65535, 65536, 1 << 30, Integer.MIN_VALUE, Integer.MAX_VALUE};
    private static final int[] BYTES = {0, 0, 0, 1, 1, 2, 3, 4, 5, 8, 12, 20, -1, -56, 60};

    private static final Check CHECK = new Check("ModelTest");

    private final Bench x = new Bench(CHECK);
    private final Model model = new Model();
    private long seed;

    private ModelTest(int run) {
        this.seed = run;
    }

    public static void main(String[] args) {
        for (int run = 0; run < RUNS; run++) {
            CHECK.about("run " + run);
            ModelTest test = new ModelTest(run);
            switch (run % 4) {
                case 0: test.mixed(); break;
                case 1: test.packs(); break;
                case 2: test.wide(); break;
                default: test.crowd(); break;
            }
        }
        CHECK.end();
    }

    /** A number below bound, always the same ones for a run: no random source. */
    private int next(int bound) {
        seed = seed * 6364136223846793005L + 1442695040888963407L;
        return (int) ((seed >>> 33) % bound);
    }

    private int numberUpTo(int bound) {
        return next(40) == 0 ? EDGES[next(EDGES.length)] : next(bound);
    }

    private byte someByte() {
        return (byte) (next(50) == 0 ? next(256) : BYTES[next(BYTES.length)]);
    }

    private boolean callsLeft(int many) {
        return x.calls() + many <= CALLS;
    }

    private void due(int got, int want) {
        CHECK.due(got, want);
    }

    private void object(int kind) {
        due(x.object(kind), model.object(kind));
    }

    private void put(int object, byte b) {
        due(x.put(object, b), model.put(object, b));
    }

    private void raw(int count, int first) {
        due(x.raw(count, first), model.raw(count, first));
    }

    private void add(int pack, int b) {
        due(x.add(pack, b), model.add(pack, (byte) b));
    }

    private void addPair(int pack, int object, int place) {
        add(pack, object >> 8);
        add(pack, object);
        add(pack, place >> 8);
        add(pack, place);
    }

    private void extend(int pack, int other) {
        due(x.extend(pack, other), model.extend(pack, other));
    }

    private void row(int object, int pack, int index) {
        due(x.row(object, pack, index), model.row(object, pack, index));
    }

    private void change(int object) {
        due(x.change(object), model.change(object));
    }

    private void pack(int most) {
        due(x.pack(most), model.pack(most));
    }

    private void at(int object, int i) {
        due(x.at(object, i), model.at(object, i));
    }

    private void octet(int pack, int i) {
        due(x.octet(pack, i), model.octet(pack, i));
    }

    private void in(int object) {
        due(x.in(object), model.in(object));
    }

    private void read(int pack) {
        due(x.read(pack), model.read(pack));
    }

    private void told(int i, int what) {
        due(x.told(i, what), model.told(i, what));
    }

    private void pair(int pack, int k, int what) {
        due(x.pair(pack, k, what), model.pair(pack, k, what));
    }

    /** All kinds of calls on few objects and packs, many of them broken. */
    private void mixed() {
        object(0);
        object(0);
        object(1);
        rawWithPairs(0);
        while (callsLeft(21)) {
            int call = next(20);
            if (call == 13 && next(4) == 0) {
                rawWithPairs(model.count(1));
            } else if (call < 13) {
                changeSome(call, 8, 5);
            } else {
                ask(8, 5);
            }
        }
    }

    /** A call that may change something, one of 13. */
    private void changeSome(int call, int objects, int packs) {
        if (call < 5) {
            put(numberUpTo(objects), someByte());
        } else if (call < 8) {
            add(numberUpTo(packs), someByte());
        } else if (call == 8) {
            object(numberUpTo(2));
        } else if (call == 9) {
            pack(next(4) == 0 ? numberUpTo(12) : 1 + next(10));
        } else if (call == 10) {
            row(numberUpTo(objects), numberUpTo(packs), numberUpTo(6));
        } else if (call == 11) {
            change(numberUpTo(objects));
        } else {
            extend(numberUpTo(packs), next(6) == 0 ? -1 : numberUpTo(packs));
        }
    }

    private void rawWithPairs(int pack) {
        int count = numberUpTo(6);
        raw(count, next(3) == 0 ? numberUpTo(30) : 4 * Math.max(0, Math.min(count, 150)));
        for (int k = 0; k < 5; k++) {
            addPair(pack, next(8), next(5) == 0 ? next(70000) : next(12));
        }
    }

    private void ask(int objects, int packs) {
        int object = numberUpTo(objects);
        int pack = numberUpTo(packs);
        int i = numberUpTo(8);
        int what = numberUpTo(5);
        switch (next(9)) {
            case 0: due(x.size(object), model.size(object)); break;
            case 1: at(object, i); break;
            case 2: in(object); break;
            case 3: octet(pack, i); break;
            case 4: read(pack); break;
            case 5: told(next(8) - 1, next(2)); break;
            case 6: pair(pack, i, what); break;
            case 7: due(x.find(object, pack), model.find(object, pack)); break;
            default: due(x.count(what), model.count(what)); break;
        }
    }

    /** Many values with like beginnings, packed, changed and packed again. */
    private void packs() {
        int values = 5 + next(40);
        for (int i = 0; i < values; i++) {
            object(next(12) == 0 ? 1 : 0);
        }
        int letters = 1 + next(3);
        for (int i = 0; i < 220; i++) {
            put(next(values), (byte) next(letters));
        }
        pack(1 + next(10));
        for (int i = 0; i < 20; i++) {
            int object = next(values);
            change(object);
            put(object, (byte) next(letters));
        }
        pack(1 + next(10));
        while (callsLeft(1)) {
            lookAt(next(values), next(20));
        }
    }

    private void lookAt(int object, int pack) {
        int i = next(12);
        switch (next(5)) {
            case 0: in(object); break;
            case 1: at(object, i); break;
            case 2: octet(pack, next(100)); break;
            case 3: pair(pack, i, next(3)); break;
            default: read(pack); break;
        }
    }

    /** Values with many bytes, out of contents that overlap, so that packs come near 600 bytes. */
    private void wide() {
        int values = 8 + next(12);
        for (int i = 0; i < values; i++) {
            object(0);
        }
        raw(values, 4 * values);
        for (int i = 0; i < values; i++) {
            addPair(0, i, 3 * i);
        }
        for (int i = 0; i < values; i++) {
            add(0, 0);
            add(0, 48 + next(14));
            add(0, next(30));
        }
        for (int i = 0; i < 62; i++) {
            add(0, next(3));
        }
        for (int i = 0; i < values; i++) {
            row(i, 0, i);
            change(i);
        }
        pack(8 + next(3));
        due(x.count(4), model.count(4));
        while (callsLeft(4)) {
            int object = next(values);
            int pack = next(4);
            at(object, next(62));
            in(object);
            octet(pack, 480 + next(125));
            if (next(4) == 0) {
                add(pack, 1);
            }
        }
    }

    /** As many objects and packs as there can be, or nearly, and packs that extend one another. */
    private void crowd() {
        for (int i = 58 + next(3); i > 0; i--) {
            object(next(6) == 0 ? 1 : 0);
        }
        int bytes = next(30);
        for (int i = 0; i < bytes; i++) {
            put(next(60), someByte());
        }
        pack(1 + next(4));
        while (model.count(1) < 18 + next(3)) {
            int pack = model.count(1);
            raw(numberUpTo(4), next(14));
            addPair(pack, next(62), next(4));
            extend(pack, next(20));
            extend(next(20), pack);
        }
        while (callsLeft(1)) {
            if (next(3) == 0) {
                changeSome(next(13), 62, 21);
            } else {
                ask(62, 21);
            }
        }
    }
}
