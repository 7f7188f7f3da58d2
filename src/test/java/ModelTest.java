/** Long runs of mixed calls, of 512 at most, whose answers are those of the model. */
public final class ModelTest {
    private static final int RUNS = 3000, CALLS = 512;
    private static final int[] EDGES = {-1, -2, 2, 3, 59, 60, 99, 100, 600, 601, 65535, Integer.MIN_VALUE, Integer.MAX_VALUE};
    private static final int[] BYTES = {0, 0, 0, 1, 1, 2, 3, 4, 5, 8, 12, 20, -1, -56, 60};

    private static final Check CHECK = new Check("ModelTest");

    private final ObjectStreams x = new ObjectStreams();
    private final Model model = new Model();
    private final int run;
    private long seed;
    private int calls = 0;

    private ModelTest(int run) {
        this.run = run;
        this.seed = run;
    }

    public static void main(String[] args) {
        for (int run = 0; run < RUNS; run++) {
            ModelTest test = new ModelTest(run);
            switch (run % 3) {
                case 0: test.mixed(); break;
                case 1: test.packs(); break;
                default: test.wide(); break;
            }
        }
        CHECK.end();
    }

    /** A number below bound, always the same ones for a run: no random source. */
    private int next(int bound) {
        seed = seed * 6364136223846793005L + 1442695040888963407L;
        return (int) ((seed >>> 33) % bound);
    }

    private int numberUpTo(int bound) {
        return next(40) == 0 ? EDGES[next(EDGES.length)] : next(bound);
    }

    private byte someByte() {
        return (byte) (next(50) == 0 ? next(256) : BYTES[next(BYTES.length)]);
    }

    private void due(String call, int got, int want) {
        calls++;
        CHECK.due("run " + run + ", call " + calls + ": " + call, got, want);
    }

    private void object(int kind) {
        due("object(" + kind + ")", x.object(kind), model.object(kind));
    }

    private void put(int object, byte b) {
        due("put(" + object + ", " + b + ")", x.put(object, b), model.put(object, b));
    }

    private void raw(int count, int first) {
        due("raw(" + count + ", " + first + ")", x.raw(count, first), model.raw(count, first));
    }

    private void add(int pack, byte b) {
        due("add(" + pack + ", " + b + ")", x.add(pack, b), model.add(pack, b));
    }

    private void addPair(int pack, int object, int place) {
        add(pack, (byte) (object >> 8));
        add(pack, (byte) object);
        add(pack, (byte) (place >> 8));
        add(pack, (byte) place);
    }

    private void row(int object, int pack, int index) {
        due("row(" + object + ", " + pack + ", " + index + ")",
            x.row(object, pack, index), model.row(object, pack, index));
    }

    private void change(int object) {
        due("change(" + object + ")", x.change(object), model.change(object));
    }

    private void pack(int most) {
        due("pack(" + most + ")", x.pack(most), model.pack(most));
    }

    /** All kinds of calls on few objects and packs, many of them broken. */
    private void mixed() {
        object(0);
        object(0);
        object(1);
        rawWithPairs(0);
        while (calls < CALLS - 40) {
            int call = next(20);
            if (call < 5) {
                put(numberUpTo(8), someByte());
            } else if (call < 8) {
                add(numberUpTo(4), someByte());
            } else if (call == 8) {
                object(numberUpTo(2));
            } else if (call == 9) {
                pack(next(4) == 0 ? numberUpTo(12) : 1 + next(10));
            } else if (call == 10) {
                row(numberUpTo(8), numberUpTo(4), numberUpTo(6));
            } else if (call == 11) {
                change(numberUpTo(8));
            } else if (call == 12) {
                int pack = numberUpTo(5);
                int other = next(6) == 0 ? -1 : numberUpTo(5);
                due("extend(" + pack + ", " + other + ")", x.extend(pack, other), model.extend(pack, other));
            } else if (call == 13 && next(4) == 0) {
                rawWithPairs(model.count(1));
            } else {
                ask();
            }
        }
    }

    private void rawWithPairs(int pack) {
        int count = numberUpTo(6);
        raw(count, next(3) == 0 ? numberUpTo(30) : 4 * Math.max(0, Math.min(count, 150)));
        for (int k = 0; k < 5; k++) {
            addPair(pack, next(8), next(5) == 0 ? next(70000) : next(12));
        }
    }

    private void ask() {
        int object = numberUpTo(8);
        int pack = numberUpTo(5);
        int i = numberUpTo(8);
        int what = numberUpTo(5);
        switch (next(9)) {
            case 0: due("size(" + object + ")", x.size(object), model.size(object)); break;
            case 1: due("at(" + object + ", " + i + ")", Check.at(x, object, i), model.at(object, i)); break;
            case 2: due("in(" + object + ")", x.in(object), model.in(object)); break;
            case 3: due("octet(" + pack + ", " + i + ")", Check.octet(x, pack, i), model.octet(pack, i)); break;
            case 4: due("read(" + pack + ")", x.read(pack), model.read(pack)); break;
            case 5: askTold(next(8) - 1); break;
            case 6: askPair(pack, i, what); break;
            case 7: due("find(" + object + ", " + pack + ")", x.find(object, pack), model.find(object, pack)); break;
            default: due("count(" + what + ")", x.count(what), model.count(what)); break;
        }
    }

    private void askTold(int i) {
        due("told(" + i + ", 0)", x.told(i, 0), model.told(i, 0));
        due("told(" + i + ", 1)", x.told(i, 1), model.told(i, 1));
    }

    private void askPair(int pack, int k, int what) {
        due("pair(" + pack + ", " + k + ", " + what + ")", x.pair(pack, k, what), model.pair(pack, k, what));
    }

    /** Many values with like beginnings, packed, changed and packed again. */
    private void packs() {
        int values = 5 + next(40);
        for (int i = 0; i < values; i++) {
            object(next(12) == 0 ? 1 : 0);
        }
        int letters = 1 + next(3);
        for (int i = 0; i < 220; i++) {
            put(next(values), (byte) next(letters));
        }
        pack(1 + next(10));
        for (int i = 0; i < 20; i++) {
            int object = next(values);
            change(object);
            put(object, (byte) next(letters));
        }
        pack(1 + next(10));
        while (calls < CALLS) {
            lookAt(next(values), next(20));
        }
    }

    private void lookAt(int object, int pack) {
        int i = next(12);
        switch (next(5)) {
            case 0: due("in(" + object + ")", x.in(object), model.in(object)); break;
            case 1: due("at(" + object + ", " + i + ")", Check.at(x, object, i), model.at(object, i)); break;
            case 2:
                int octet = next(100);
                due("octet(" + pack + ", " + octet + ")", Check.octet(x, pack, octet), model.octet(pack, octet));
                break;
            case 3: askPair(pack, i, next(3)); break;
            default: due("read(" + pack + ")", x.read(pack), model.read(pack)); break;
        }
    }

    /** Values with many bytes, out of contents that overlap, so that packs come near 600 bytes. */
    private void wide() {
        int values = 8 + next(12);
        for (int i = 0; i < values; i++) {
            object(0);
        }
        raw(values, 4 * values);
        for (int i = 0; i < values; i++) {
            addPair(0, i, 3 * i);
        }
        for (int i = 0; i < values; i++) {
            add(0, (byte) 0);
            add(0, (byte) (48 + next(14)));
            add(0, (byte) next(30));
        }
        for (int i = 0; i < 62; i++) {
            add(0, (byte) next(3));
        }
        for (int i = 0; i < values; i++) {
            row(i, 0, i);
            change(i);
        }
        pack(8 + next(3));
        due("count(4)", x.count(4), model.count(4));
        while (calls < CALLS) {
            int object = next(values);
            int i = next(62);
            int pack = next(4);
            int octet = 480 + next(125);
            due("at(" + object + ", " + i + ")", Check.at(x, object, i), model.at(object, i));
            due("in(" + object + ")", x.in(object), model.in(object));
            due("octet(" + pack + ", " + octet + ")", Check.octet(x, pack, octet), model.octet(pack, octet));
            if (next(4) == 0) {
                add(pack, (byte) 1);
            }
        }
    }
}
