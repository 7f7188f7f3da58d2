/**
 * An ObjectStreams under test. It counts the calls, as nothing is promised behind the 512th, and turns the
 * exception that the document names into an answer.
 */
final class Bench {
    static final int NONE = -1, BAD = -2, STATE = -3, FULL = -4;

    /** What at() and octet() are taken to answer when they throw; no byte has this value. */
    static final int THROWS = 1000;

    /** Numbers that no object and no pack ever has. */
    static final int[] NO_NUMBER = {-1, -2, 60, 100, 65536, Integer.MIN_VALUE, Integer.MAX_VALUE};

    private static final int MOST_CALLS = 512;

    private final Check check;
    private final ObjectStreams x = new ObjectStreams();
    private int calls = 0;

    Bench(Check check) {
        this.check = check;
    }

    /** With so many values, 0, 1, .. */
    Bench(Check check, int values) {
        this(check);
        for (int i = 0; i < values; i++) {
            due(object(0), i);
        }
    }

    /**
     * With values whose own bytes differ from the first byte on. They come out of one raw pack whose
     * contents overlap, as so many bytes could not be put within 512 calls.
     */
    static Bench broad(Check check, int values, int length) {
        Bench x = new Bench(check, values);
        x.raw(values, 4 * values);
        for (int j = 0; j < values; j++) {
            x.addAll(0, 0, j, 0, 3 * j);
        }
        for (int j = 0; j < values; j++) {
            x.addAll(0, 0, length, 100 + j);
        }
        x.addAll(0, new int[length]);
        for (int j = 0; j < values; j++) {
            x.due(x.row(j, 0, j), 0);
            x.due(x.change(j), length);
        }
        return x;
    }

    int calls() {
        return calls;
    }

    private void called(String method, Object... arguments) {
        calls++;
        if (calls == MOST_CALLS + 1) {
            check.fault("a test calls more than " + MOST_CALLS + " times");
        }
        StringBuilder text = new StringBuilder("call " + calls + ", " + method + "(");
        for (int i = 0; i < arguments.length; i++) {
            text.append(i == 0 ? "" : ", ").append(arguments[i]);
        }
        check.called(text.append(")").toString());
    }

    void due(long got, long want) {
        check.due(got, want);
    }

    int object(int kind) {
        called("object", kind);
        return x.object(kind);
    }

    int put(int object, int b) {
        called("put", object, (byte) b);
        return x.put(object, (byte) b);
    }

    int change(int object) {
        called("change", object);
        return x.change(object);
    }

    int pack(int most) {
        called("pack", most);
        return x.pack(most);
    }

    int size(int object) {
        called("size", object);
        return x.size(object);
    }

    int at(int object, int i) {
        called("at", object, i);
        try {
            return x.at(object, i);
        } catch (ArrayIndexOutOfBoundsException e) {
            return thrown(e);
        }
    }

    int in(int object) {
        called("in", object);
        return x.in(object);
    }

    int raw(int count, int first) {
        called("raw", count, first);
        return x.raw(count, first);
    }

    int add(int pack, int b) {
        called("add", pack, (byte) b);
        return x.add(pack, (byte) b);
    }

    int octet(int pack, int i) {
        called("octet", pack, i);
        try {
            return x.octet(pack, i);
        } catch (ArrayIndexOutOfBoundsException e) {
            return thrown(e);
        }
    }

    int extend(int pack, int other) {
        called("extend", pack, other);
        return x.extend(pack, other);
    }

    int row(int object, int pack, int index) {
        called("row", object, pack, index);
        return x.row(object, pack, index);
    }

    int read(int pack) {
        called("read", pack);
        return x.read(pack);
    }

    int told(int i, int what) {
        called("told", i, what);
        return x.told(i, what);
    }

    int pair(int pack, int k, int what) {
        called("pair", pack, k, what);
        return x.pair(pack, k, what);
    }

    int find(int object, int pack) {
        called("find", object, pack);
        return x.find(object, pack);
    }

    int count(int what) {
        called("count", what);
        return x.count(what);
    }

    /** The machine's own exceptions bear another text than those of the class. */
    private int thrown(ArrayIndexOutOfBoundsException e) {
        String text = e.getMessage();
        if (e.getClass() != ArrayIndexOutOfBoundsException.class || text == null || !text.startsWith("no such byte")) {
            check.fault("not thrown by the class itself: " + e);
        }
        return THROWS;
    }

    void putAll(int object, int... bytes) {
        for (int b : bytes) {
            put(object, b);
        }
    }

    void addAll(int pack, int... bytes) {
        for (int b : bytes) {
            add(pack, b);
        }
    }

    /** The bytes of an object are these, and no more. */
    void bytesDue(int object, int... want) {
        due(size(object), want.length);
        for (int i = 0; i < want.length; i++) {
            due(at(object, i), (byte) want[i]);
        }
        due(at(object, want.length), THROWS);
    }

    /** The bytes of a pack are these, and no more. */
    void octetsDue(int pack, int... want) {
        for (int i = 0; i < want.length; i++) {
            due(octet(pack, i), (byte) want[i]);
        }
        due(octet(pack, want.length), THROWS);
    }

    /** What was told is this, and no more: what it is, its pair, and so on. */
    void toldDue(int... faultsAndPairs) {
        int many = faultsAndPairs.length / 2;
        due(told(NONE, 0), many);
        for (int i = 0; i < many; i++) {
            due(told(i, 0), faultsAndPairs[2 * i]);
            due(told(i, 1), faultsAndPairs[2 * i + 1]);
        }
        due(told(many, 0), NONE);
        due(told(many, 1), NONE);
    }

    /** An object is LOST, for each call that tells. */
    void lostDue(int object) {
        due(size(object), NONE);
        due(at(object, 0), THROWS);
    }
}
