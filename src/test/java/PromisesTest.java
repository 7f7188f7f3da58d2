/** Every promise of the document by itself: ordinary inputs, the edges that it names, wrong inputs. */
public final class PromisesTest {
    private static final int NONE = -1, BAD = -2, STATE = -3, FULL = -4;
    private static final int THROWS = Check.THROWS;
    private static final int[] NO_NUMBER = {-1, -2, 60, 100, Integer.MIN_VALUE, Integer.MAX_VALUE};

    private static final Check CHECK = new Check("PromisesTest");

    public static void main(String[] args) {
        newObject();
        object();
        put();
        change();
        changeOfMuch();
        packOrder();
        packMost();
        packOctets();
        packFull();
        packLeavesOut();
        sizeAndLost();
        at();
        in();
        raw();
        add();
        octet();
        extend();
        row();
        read();
        readNotThere();
        told();
        pair();
        contentOfUnsignedBytes();
        contentBehindNone();
        find();
        count();
        CHECK.end();
    }

    private static void due(String call, long got, long want) {
        CHECK.due(call, got, want);
    }

    private static ObjectStreams withValues(int values) {
        ObjectStreams x = new ObjectStreams();
        for (int i = 0; i < values; i++) {
            due("object(0)", x.object(0), i);
        }
        return x;
    }

    private static void putAll(ObjectStreams x, int object, int... bytes) {
        for (int b : bytes) {
            x.put(object, (byte) b);
        }
    }

    private static void addAll(ObjectStreams x, int pack, int... bytes) {
        for (int b : bytes) {
            x.add(pack, (byte) b);
        }
    }

    private static void bytes(String name, ObjectStreams x, int object, int... want) {
        due(name + ": size(" + object + ")", x.size(object), want.length);
        for (int i = 0; i < want.length; i++) {
            due(name + ": at(" + object + ", " + i + ")", Check.at(x, object, i), (byte) want[i]);
        }
        due(name + ": at behind the last", Check.at(x, object, want.length), THROWS);
    }

    private static void octets(String name, ObjectStreams x, int pack, int... want) {
        for (int i = 0; i < want.length; i++) {
            due(name + ": octet(" + pack + ", " + i + ")", Check.octet(x, pack, i), (byte) want[i]);
        }
        due(name + ": octet behind the last", Check.octet(x, pack, want.length), THROWS);
    }

    private static void allTold(String name, ObjectStreams x, int... faultsAndPairs) {
        int many = faultsAndPairs.length / 2;
        due(name + ": told(NONE, 0)", x.told(NONE, 0), many);
        for (int i = 0; i < many; i++) {
            due(name + ": told(" + i + ", 0)", x.told(i, 0), faultsAndPairs[2 * i]);
            due(name + ": told(" + i + ", 1)", x.told(i, 1), faultsAndPairs[2 * i + 1]);
        }
        due(name + ": told behind the last", x.told(many, 0), NONE);
    }

    /**
     * Values with own bytes that differ from the first byte on. They come out of one raw pack whose
     * contents overlap, as so many bytes could not be put within 512 calls.
     */
    private static ObjectStreams broad(int values, int length) {
        ObjectStreams x = withValues(values);
        x.raw(values, 4 * values);
        for (int j = 0; j < values; j++) {
            addAll(x, 0, 0, j, 0, 3 * j);
        }
        for (int j = 0; j < values; j++) {
            addAll(x, 0, 0, length, 100 + j);
        }
        addAll(x, 0, new int[length]);
        for (int j = 0; j < values; j++) {
            due("broad: row(" + j + ")", x.row(j, 0, j), 0);
            due("broad: change(" + j + ")", x.change(j), length);
        }
        return x;
    }

    private static void newObject() {
        ObjectStreams x = new ObjectStreams();
        for (int what = 0; what <= 4; what++) {
            due("new: count(" + what + ")", x.count(what), 0);
        }
        due("new: size(0)", x.size(0), BAD);
        due("new: read(0)", x.read(0), BAD);
        due("new: told(NONE, 0)", x.told(NONE, 0), 0);
        due("new: told(0, 0)", x.told(0, 0), NONE);
        x.object(0);
        x.put(0, (byte) 1);
        x.pack(1);
        ObjectStreams y = new ObjectStreams();
        due("new beside another: count(0)", y.count(0), 0);
        due("new beside another: count(1)", y.count(1), 0);
    }

    private static void object() {
        ObjectStreams x = new ObjectStreams();
        for (int kind : new int[] {-1, 2, -2, 256, Integer.MIN_VALUE, Integer.MAX_VALUE}) {
            due("object(" + kind + ")", x.object(kind), BAD);
        }
        for (int i = 0; i < 60; i++) {
            due("object " + i, x.object(i % 2), i);
        }
        due("object(0) as the 61st", x.object(0), FULL);
        due("object(1) as the 61st", x.object(1), FULL);
        due("object(2) as the 61st", x.object(2), BAD);
        due("count(0)", x.count(0), 60);
        due("size(59)", x.size(59), 0);
        due("in(59)", x.in(59), NONE);
        due("size(60)", x.size(60), BAD);
    }

    private static void put() {
        ObjectStreams x = withValues(2);
        due("object(1)", x.object(1), 2);
        due("put(0, -128)", x.put(0, (byte) -128), 1);
        due("put(0, 127)", x.put(0, (byte) 127), 2);
        due("put(2, 5)", x.put(2, (byte) 5), 1);
        bytes("put", x, 0, -128, 127);
        bytes("put in another", x, 1);
        bytes("put in a stream", x, 2, 5);
        for (int n : NO_NUMBER) {
            due("put(" + n + ", 1)", x.put(n, (byte) 1), BAD);
        }
        due("put(3, 1)", x.put(3, (byte) 1), BAD);
        for (int i = 0; i < 60; i++) {
            due("put(1, " + i + ")", x.put(1, (byte) i), i + 1);
        }
        due("put(1, 60)", x.put(1, (byte) 60), FULL);
        due("size(1)", x.size(1), 60);
        due("pack(10)", x.pack(10), 1);
        due("put of a packed one", x.put(0, (byte) 1), STATE);
        due("put of a full packed one", x.put(1, (byte) 1), STATE);
        due("put of a stream", x.put(2, (byte) 6), 2);
        due("row to nothing", x.row(0, 0, 50), 1);
        due("put of a lost one", x.put(0, (byte) 1), STATE);
    }

    private static void change() {
        ObjectStreams x = withValues(2);
        due("object(1)", x.object(1), 2);
        putAll(x, 0, 1, 2, 3);
        putAll(x, 1, 1, 2, 4, 5);
        for (int n : NO_NUMBER) {
            due("change(" + n + ")", x.change(n), BAD);
        }
        due("change of an own one", x.change(0), STATE);
        due("change of a stream", x.change(2), STATE);
        due("pack(2)", x.pack(2), 1);
        due("change(1)", x.change(1), 4);
        due("change(1) again", x.change(1), STATE);
        due("in(1)", x.in(1), NONE);
        bytes("changed", x, 1, 1, 2, 4, 5);
        due("put behind", x.put(1, (byte) 6), 5);
        bytes("changed and put", x, 1, 1, 2, 4, 5, 6);
        due("pair(0, 1, 0) stays", x.pair(0, 1, 0), 1);
        due("pair(0, 1, 2) stays", x.pair(0, 1, 2), 4);
        due("row(1, 0, 0)", x.row(1, 0, 0), 0);
        due("change of a lost one", x.change(1), NONE);
        due("in(1)", x.in(1), NONE);
        bytes("lost and changed", x, 1);
        due("change(1) when own", x.change(1), STATE);
        due("put(1, 9)", x.put(1, (byte) 9), 1);
    }

    private static void changeOfMuch() {
        ObjectStreams x = withValues(4);
        x.raw(4, 16);
        addAll(x, 0, 0, 0, 0, 0, 0, 1, 0, 62, 0, 2, 0, 65, 0, 3, 0, 67);
        addAll(x, 0, 0, 60);
        for (int i = 0; i < 60; i++) {
            x.add(0, (byte) (i + 1));
        }
        addAll(x, 0, 60, 1, 99, 61, 0, 0, 0);
        for (int i = 0; i < 4; i++) {
            due("row(" + i + ")", x.row(i, 0, i), 0);
        }
        due("change with 60", x.change(0), 60);
        due("at(0, 59)", Check.at(x, 0, 59), 60);
        due("put behind 60", x.put(0, (byte) 1), FULL);
        due("change with 61", x.change(1), FULL);
        due("it stays", x.in(1), 1);
        due("size(1)", x.size(1), 61);
        due("at(1, 60)", Check.at(x, 1, 60), 99);
        due("at(1, 59)", Check.at(x, 1, 59), 60);
        due("change with 61 of the one before", x.change(2), FULL);
        due("change with none", x.change(3), 0);
        due("in(3)", x.in(3), NONE);
    }

    private static void packOrder() {
        ObjectStreams x = withValues(6);
        for (int most : new int[] {0, 11, -1, Integer.MIN_VALUE, Integer.MAX_VALUE}) {
            due("pack(" + most + ")", x.pack(most), BAD);
        }
        due("pack(10) of none", x.pack(10), 0);
        putAll(x, 0, 7, 7);
        putAll(x, 1, 1, 2, 3);
        putAll(x, 2, 7, 7, 8, 8);
        putAll(x, 3, 7, 9);
        putAll(x, 4, 7, 9, 1);
        putAll(x, 5, 2);
        due("pack(10)", x.pack(10), 1);
        // behind 0: 3 and 5 have one byte to write; behind 3: 4 and 5; behind 4: 5; behind 5: 1 has 3, 2 has 4
        octets("order", x, 0,
            0, 0, 0, 0, 0, 3, 0, 4, 0, 4, 0, 7, 0, 5, 0, 10, 0, 1, 0, 13, 0, 2, 0, 18,
            0, 2, 7, 7, 1, 1, 9, 2, 1, 1, 0, 1, 2, 0, 3, 1, 2, 3, 0, 4, 7, 7, 8, 8);
        int[] index = {0, 4, 5, 1, 2, 3};
        for (int i = 0; i < 6; i++) {
            due("in(" + i + ")", x.in(i), index[i]);
        }
        bytes("packed", x, 0, 7, 7);
        bytes("packed", x, 1, 1, 2, 3);
        bytes("packed", x, 2, 7, 7, 8, 8);
        bytes("packed", x, 4, 7, 9, 1);
        due("pack(10) again", x.pack(10), 0);

        ObjectStreams alike = withValues(4);
        putAll(alike, 1, 5, -5, 6);
        putAll(alike, 2, 5, -5);
        putAll(alike, 3, 5, -5, 6);
        due("pack of like ones", alike.pack(3), 1);
        octets("like ones", alike, 0, 0, 1, 0, 0, 0, 2, 0, 5, 0, 3, 0, 7, 0, 3, 5, -5, 6, 2, 0, 2, 1, 6);
        bytes("like ones", alike, 2, 5, -5);
        bytes("like ones", alike, 3, 5, -5, 6);
    }

    private static void packMost() {
        ObjectStreams x = withValues(7);
        for (int i = 0; i < 7; i++) {
            putAll(x, i, i, i);
        }
        due("pack(3)", x.pack(3), 3);
        for (int i = 0; i < 7; i++) {
            due("in(" + i + ")", x.in(i), 100 * (i / 3) + i % 3);
        }
        octets("the last", x, 2, 0, 6, 0, 0, 0, 2, 6, 6);
        due("count(1)", x.count(1), 3);
        due("read(1)", x.read(1), 3);

        ObjectStreams one = withValues(2);
        putAll(one, 0, 1);
        putAll(one, 1, 1);
        due("pack(1)", one.pack(1), 2);
        octets("alone", one, 1, 0, 1, 0, 0, 0, 1, 1);

        ObjectStreams eleven = withValues(11);
        for (int i = 0; i < 11; i++) {
            putAll(eleven, i, 1);
        }
        due("pack(10) of 11", eleven.pack(10), 2);
        due("in(9)", eleven.in(9), 9);
        due("in(10)", eleven.in(10), 100);
    }

    private static void packOctets() {
        ObjectStreams x = broad(10, 54);
        due("pack to 600 bytes", x.pack(10), 1);
        due("count(4)", x.count(4), 600 + 124);
        due("in(9)", x.in(9), 109);
        due("octet(1, 599)", Check.octet(x, 1, 599), 0);
        due("octet(1, 600)", Check.octet(x, 1, 600), THROWS);
        due("size(9)", x.size(9), 54);
        due("at(9, 0)", Check.at(x, 9, 0), 109);

        ObjectStreams y = broad(10, 54);
        due("put(9, 1)", y.put(9, (byte) 1), 55);
        due("pack to 601 bytes", y.pack(10), 2);
        due("in(8)", y.in(8), 108);
        due("in(9)", y.in(9), 200);
        due("count(4)", y.count(4), 124 + 540 + 61);
        due("pair(1, 8, 0)", y.pair(1, 8, 0), 8);
        due("pair(1, 9, 0)", y.pair(1, 9, 0), NONE);

        ObjectStreams z = broad(20, 60);
        due("pack of 20 with 60 bytes", z.pack(10), 3);
        due("in(8)", z.in(8), 108);
        due("in(9)", z.in(9), 200);
        due("in(18)", z.in(18), 300);
        due("size(18)", z.size(18), 60);
    }

    private static void packFull() {
        ObjectStreams x = withValues(22);
        for (int i = 0; i < 21; i++) {
            putAll(x, i, i);
        }
        due("pack(1) of 21", x.pack(1), FULL);
        due("count(1)", x.count(1), 0);
        due("count(2)", x.count(2), 0);
        for (int i = 0; i < 21; i++) {
            due("in(" + i + ")", x.in(i), NONE);
        }
        bytes("not packed", x, 20, 20);
        due("raw", x.raw(0, 0), 0);
        due("pack(2) of 21", x.pack(2), 11);
        due("count(1)", x.count(1), 12);
        for (int p = 12; p < 20; p++) {
            due("raw", x.raw(0, 0), p);
        }
        due("pack(1) of none, all packs there", x.pack(1), 0);
        due("pack(11), all packs there", x.pack(11), BAD);
        putAll(x, 21, 1);
        due("pack(1) of one, all packs there", x.pack(1), FULL);
        due("in(21)", x.in(21), NONE);

        ObjectStreams y = withValues(20);
        for (int i = 0; i < 20; i++) {
            putAll(y, i, i);
        }
        due("pack(1) of 20", y.pack(1), 20);
        due("in(19)", y.in(19), 1900);
    }

    private static void packLeavesOut() {
        ObjectStreams x = withValues(3);
        due("object(1)", x.object(1), 3);
        x.raw(1, 4);
        addAll(x, 0, 0, 1, 0, 0, 0, 1, 9);
        due("row(1, 0, 0)", x.row(1, 0, 0), 0);
        putAll(x, 2, 4);
        putAll(x, 3, 4);
        due("pack(10)", x.pack(10), 1);
        octets("the only one", x, 1, 0, 2, 0, 0, 0, 1, 4);
        due("an empty one", x.in(0), NONE);
        due("one that is in a pack", x.in(1), 0);
        due("a stream", x.in(3), NONE);
        due("a new pack extends none", x.find(1, 1), NONE);
        due("change(1)", x.change(1), 1);
        due("pack(10) of the changed one", x.pack(10), 1);
        octets("the changed one", x, 2, 0, 1, 0, 0, 0, 1, 9);
    }

    private static void sizeAndLost() {
        ObjectStreams x = withValues(6);
        due("object(1)", x.object(1), 6);
        for (int n : NO_NUMBER) {
            due("size(" + n + ")", x.size(n), BAD);
        }
        due("size(7)", x.size(7), BAD);
        x.raw(3, 12);
        addAll(x, 0, 0, 0, 0, 0, 0, 1, 0, 2, 0, 2, 0, 9);
        addAll(x, 0, 0, 0, 0, 1, 7);
        for (int i = 0; i < 3; i++) {
            due("row(" + i + ")", x.row(i, 0, i), 0);
        }
        bytes("content without bytes", x, 0);
        bytes("content with one", x, 1, 7);
        due("no content", x.size(2), NONE);
        due("row(3, 0, 1)", x.row(3, 0, 1), 0);
        due("the pair of another", x.size(3), NONE);
        due("row(4, 0, 3)", x.row(4, 0, 3), 0);
        due("no pair", x.size(4), NONE);
        due("count(3)", x.count(3), 3);
        addAll(x, 0, 0, 0, 0, 0, 0, 2, 8, 9);
        bytes("content that came later", x, 2, 8, 9);
        due("count(3)", x.count(3), 2);
        x.raw(1, 3);
        addAll(x, 1, 0, 5, 0, 0, 0, 0);
        due("row(5, 1, 0)", x.row(5, 1, 0), 0);
        due("a pair over FIRST", x.size(5), NONE);
        due("size of a stream", x.size(6), 0);
    }

    private static void at() {
        ObjectStreams x = withValues(3);
        putAll(x, 0, 1, -1);
        putAll(x, 1, 1, -1, 3);
        for (int n : NO_NUMBER) {
            due("at(" + n + ", 0)", Check.at(x, n, 0), THROWS);
            due("at(0, " + n + ")", Check.at(x, 0, n), THROWS);
        }
        due("at(3, 0)", Check.at(x, 3, 0), THROWS);
        bytes("own", x, 0, 1, -1);
        bytes("own, none", x, 2);
        x.pack(2);
        bytes("in a pack", x, 0, 1, -1);
        bytes("in a pack, with some of the one before", x, 1, 1, -1, 3);
        due("at(1, -1)", Check.at(x, 1, -1), THROWS);
        due("at(1, MAX)", Check.at(x, 1, Integer.MAX_VALUE), THROWS);
        x.row(0, 0, 1);
        due("at of a lost one", Check.at(x, 0, 0), THROWS);
        due("at(NONE) of a lost one", Check.at(x, 0, NONE), THROWS);
    }

    private static void in() {
        ObjectStreams x = withValues(2);
        for (int n : NO_NUMBER) {
            due("in(" + n + ")", x.in(n), BAD);
        }
        due("in(2)", x.in(2), BAD);
        due("in(0)", x.in(0), NONE);
        for (int p = 0; p < 20; p++) {
            x.raw(0, 0);
        }
        due("row(0, 19, 99)", x.row(0, 19, 99), 0);
        due("in(0)", x.in(0), 1999);
        due("row(0, 0, 0)", x.row(0, 0, 0), 1);
        due("in(0)", x.in(0), 0);
        due("change(0)", x.change(0), NONE);
        due("in(0)", x.in(0), NONE);
    }

    private static void raw() {
        ObjectStreams x = new ObjectStreams();
        for (int n : new int[] {-1, 100, Integer.MIN_VALUE, Integer.MAX_VALUE}) {
            due("raw(" + n + ", 0)", x.raw(n, 0), BAD);
        }
        for (int n : new int[] {-1, 601, Integer.MIN_VALUE, Integer.MAX_VALUE}) {
            due("raw(0, " + n + ")", x.raw(0, n), BAD);
        }
        due("raw(0, 0)", x.raw(0, 0), 0);
        due("raw(99, 600)", x.raw(99, 600), 1);
        due("read(0)", x.read(0), 0);
        due("told", x.told(NONE, 0), 0);
        due("read(1)", x.read(1), 0);
        due("told", x.told(NONE, 0), 99);
        due("octet(1, 0)", Check.octet(x, 1, 0), THROWS);
        for (int p = 2; p < 20; p++) {
            due("raw", x.raw(1, 1), p);
        }
        due("raw as the 21st", x.raw(1, 1), FULL);
        due("raw(100, 0) as the 21st", x.raw(100, 0), BAD);
        due("count(1)", x.count(1), 20);
        due("add(20, 1)", x.add(20, (byte) 1), BAD);
    }

    private static void add() {
        ObjectStreams x = new ObjectStreams();
        due("add(0, 1)", x.add(0, (byte) 1), BAD);
        x.raw(0, 0);
        x.raw(0, 0);
        for (int n : NO_NUMBER) {
            due("add(" + n + ", 1)", x.add(n, (byte) 1), BAD);
        }
        due("add(2, 1)", x.add(2, (byte) 1), BAD);
        due("add(1, -128)", x.add(1, (byte) -128), 1);
        due("add(1, 127)", x.add(1, (byte) 127), 2);
        octets("added", x, 1, -128, 127);
        octets("not added", x, 0);

        ObjectStreams full = broad(10, 54);
        due("pack to 600", full.pack(10), 1);
        due("add behind 600", full.add(1, (byte) 1), FULL);
        due("count(4)", full.count(4), 724);
        due("add(0, 1)", full.add(0, (byte) 1), 125);

        ObjectStreams nearly = broad(9, 60);
        due("pack to 594", nearly.pack(10), 1);
        for (int i = 594; i < 600; i++) {
            due("add(1, " + i + ")", nearly.add(1, (byte) i), i + 1);
        }
        due("add behind 600", nearly.add(1, (byte) 1), FULL);
        due("octet(1, 599)", Check.octet(nearly, 1, 599), (byte) 599);
    }

    private static void octet() {
        ObjectStreams x = new ObjectStreams();
        due("octet(0, 0)", Check.octet(x, 0, 0), THROWS);
        x.raw(0, 0);
        addAll(x, 0, 3, -3);
        for (int n : NO_NUMBER) {
            due("octet(" + n + ", 0)", Check.octet(x, n, 0), THROWS);
            due("octet(0, " + n + ")", Check.octet(x, 0, n), THROWS);
        }
        due("octet(1, 0)", Check.octet(x, 1, 0), THROWS);
        due("octet(0, 600)", Check.octet(x, 0, 600), THROWS);
        octets("octet", x, 0, 3, -3);
    }

    private static void extend() {
        ObjectStreams x = new ObjectStreams();
        due("extend(0, NONE) of no pack", x.extend(0, NONE), BAD);
        for (int p = 0; p < 4; p++) {
            x.raw(1, 4);
            addAll(x, p, 0, p, 0, 0);
        }
        for (int n : NO_NUMBER) {
            due("extend(" + n + ", 0)", x.extend(n, 0), BAD);
            due("extend(" + n + ", NONE)", x.extend(n, NONE), BAD);
            due("extend(0, " + n + ")", x.extend(0, n), n == NONE ? 1 : BAD);
        }
        due("extend(4, 0)", x.extend(4, 0), BAD);
        due("extend(0, 4)", x.extend(0, 4), BAD);
        due("extend(0, 0)", x.extend(0, 0), 0);
        due("extend(0, 1)", x.extend(0, 1), 1);
        due("extend(1, 0)", x.extend(1, 0), 0);
        due("extend(1, 2)", x.extend(1, 2), 1);
        due("extend(2, 0)", x.extend(2, 0), 0);
        due("extend(2, 1)", x.extend(2, 1), 0);
        due("extend(1, 1)", x.extend(1, 1), 0);
        due("what was is still", x.find(2, 0), 200);
        due("what was not done", x.find(0, 2), NONE);
        due("extend(0, 3) in place of 1", x.extend(0, 3), 1);
        due("3 is found", x.find(3, 0), 300);
        due("1 is not found", x.find(1, 0), NONE);
        due("extend(2, 0) is no way to itself now", x.extend(2, 0), 1);
        due("1, 2, 0, 3", x.find(3, 1), 300);
        due("extend(3, 1)", x.extend(3, 1), 0);
        due("extend(2, 9)", x.extend(2, 9), BAD);
        due("BAD does nothing", x.find(3, 2), 300);
        due("extend(2, NONE)", x.extend(2, NONE), 1);
        due("it extends none", x.find(3, 2), NONE);
        due("extend(2, NONE) again", x.extend(2, NONE), 1);

        ObjectStreams chain = new ObjectStreams();
        for (int p = 0; p < 20; p++) {
            chain.raw(1, 4);
        }
        for (int p = 0; p < 19; p++) {
            due("a chain", chain.extend(p, p + 1), 1);
        }
        due("a ring of all", chain.extend(19, 0), 0);
        addAll(chain, 19, 0, 7, 0, 0);
        due("find over all", chain.find(7, 0), 1900);
    }

    private static void row() {
        ObjectStreams x = withValues(2);
        due("object(1)", x.object(1), 2);
        due("row without packs", x.row(0, 0, 0), BAD);
        x.raw(1, 4);
        addAll(x, 0, 0, 0, 0, 0, 0, 1, 5);
        putAll(x, 0, 1, 2, 3);
        putAll(x, 2, 1);
        for (int n : NO_NUMBER) {
            due("row(" + n + ", 0, 0)", x.row(n, 0, 0), BAD);
            due("row(0, " + n + ", 0)", x.row(0, n, 0), BAD);
        }
        for (int n : new int[] {-1, 100, Integer.MIN_VALUE, Integer.MAX_VALUE}) {
            due("row(0, 0, " + n + ")", x.row(0, 0, n), BAD);
        }
        due("row of a stream", x.row(2, 0, 0), BAD);
        bytes("BAD does nothing", x, 0, 1, 2, 3);
        bytes("nor to a stream", x, 2, 1);
        due("in(2)", x.in(2), NONE);
        due("row(0, 0, 99)", x.row(0, 0, 99), 0);
        due("in(0)", x.in(0), 99);
        due("size(0)", x.size(0), NONE);
        due("row(0, 0, 0)", x.row(0, 0, 0), 1);
        bytes("rowed", x, 0, 5);
        due("row(0, 0, 0) again", x.row(0, 0, 0), 1);
        due("row(0, 0, 1)", x.row(0, 0, 1), 1);
        due("change(0)", x.change(0), NONE);
        bytes("own bytes are gone", x, 0);
    }

    private static void read() {
        ObjectStreams x = withValues(2);
        due("object(1)", x.object(1), 2);
        x.raw(9, 32);
        addAll(x, 0, 0, 0, 0, 0, 0, 2, 0, 0, 0, 3, 0, 0, 0, 0, 0, 0);
        addAll(x, 0, 0, 1, 9, 9, 0, 1, 0, 0, 0, 3, 9, 9, 1, 0, 0, 0);
        addAll(x, 0, 0, 2, 4, 5);
        for (int n : NO_NUMBER) {
            due("read(" + n + ")", x.read(n), BAD);
        }
        due("read(1)", x.read(1), BAD);
        due("read(0)", x.read(0), 1);
        // Pair 5 is of object 1, of which pair 4 is, though without content; pair 7 is of object 256.
        allTold("read", x, 4, 1, 3, 2, 5, 3, 2, 4, 5, 5, 2, 6, 3, 7, 1, 8);
        due("a new object", x.object(0), 3);
        due("read(0) with it", x.read(0), 2);
        allTold("read with it", x, 4, 1, 5, 3, 2, 4, 5, 5, 2, 6, 3, 7, 1, 8);
        due("BAD", x.read(7), BAD);
        allTold("read after BAD", x, 4, 1, 5, 3, 2, 4, 5, 5, 2, 6, 3, 7, 1, 8);

        ObjectStreams again = new ObjectStreams();
        again.object(1);
        again.raw(3, 12);
        addAll(again, 0, 0, 0, 0, 0, 0, 0, 0, 0, 0, 1, 0, 0, 0, 0);
        due("a stream twice", again.read(0), 0);
        allTold("a stream twice", again, 4, 0, 4, 1, 3, 2);
        due("an object for the third", again.object(0), 1);
        due("with it", again.read(0), 1);

        ObjectStreams behind = withValues(3);
        behind.raw(3, 12);
        addAll(behind, 0, 0, 0, 0, 0, 0, 1, 0, 4, 0, 2, 0, 7);
        addAll(behind, 0, 0, 2, 8, 9, 2, 1, 5, 4, 0);
        due("s of 2 behind 2, s of 4 behind 3", behind.read(0), 2);
        allTold("s of 4 behind 3", behind, 2, 2);

        ObjectStreams own = withValues(1);
        putAll(own, 0, 9, 9);
        own.raw(1, 4);
        addAll(own, 0, 0, 0, 0, 0, 0, 1, 3);
        due("of an object that is OWN", own.read(0), 1);
        due("it stays so", own.in(0), NONE);
    }

    private static void readNotThere() {
        ObjectStreams x = withValues(2);
        x.raw(2, 8);
        addAll(x, 0, 0, 0, 0, 0, 0, 1, 0);
        due("read with 7 bytes", x.read(0), 0);
        allTold("7 bytes", x, 2, 0, 1, 1);
        addAll(x, 0, 0);
        due("read with 8 bytes", x.read(0), 0);
        allTold("8 bytes", x, 2, 0, 2, 1);
        addAll(x, 0, 0);
        due("read with s alone", x.read(0), 0);
        allTold("9 bytes", x, 2, 0, 2, 1);
        addAll(x, 0, 1);
        due("read with s and n", x.read(0), 0);
        addAll(x, 0, 1);
        due("read with all", x.read(0), 2);
        allTold("all", x);

        ObjectStreams low = withValues(2);
        low.raw(2, 7);
        addAll(low, 0, 0, 0, 0, 1, 0, 1, 0, 1, 0, 0);
        due("FIRST within a pair", low.read(0), 1);
        allTold("FIRST within a pair", low, 1, 1);
        due("pair(0, 1, 0)", low.pair(0, 1, 0), NONE);
        due("find(1, 0)", low.find(1, 0), NONE);
    }

    private static void told() {
        ObjectStreams x = withValues(1);
        due("told(NONE, 1)", x.told(NONE, 1), 0);
        x.raw(99, 4);
        addAll(x, 0, 0, 0, 0, 0, 0, 0);
        x.raw(1, 4);
        due("read(0)", x.read(0), 1);
        due("told(NONE, 0)", x.told(NONE, 0), 98);
        due("told(NONE, 1)", x.told(NONE, 1), 98);
        due("told(0, 1)", x.told(0, 1), 1);
        due("told(97, 0)", x.told(97, 0), 1);
        due("told(97, 1)", x.told(97, 1), 98);
        for (int n : new int[] {98, 99, 100, -2, Integer.MIN_VALUE, Integer.MAX_VALUE}) {
            due("told(" + n + ", 0)", x.told(n, 0), NONE);
            due("told(" + n + ", 1)", x.told(n, 1), NONE);
            due("told(0, " + n + ")", x.told(0, n), NONE);
        }
        due("told(0, -1)", x.told(0, -1), NONE);
        due("told(0, 2)", x.told(0, 2), NONE);
        x.add(0, (byte) 1);
        x.raw(2, 2);
        x.pack(1);
        due("what was told stays", x.told(NONE, 0), 98);
        due("read(2) that is BAD", x.read(3), BAD);
        due("what was told stays", x.told(NONE, 0), 98);
        due("read(1)", x.read(1), 0);
        allTold("a later read", x, 1, 0);
    }

    private static void pair() {
        ObjectStreams x = new ObjectStreams();
        due("pair without packs", x.pair(0, 0, 0), BAD);
        x.raw(3, 12);
        addAll(x, 0, 1, 2, -1, -2, -1, -1, 0, 0, 0, 0, 0);
        for (int n : NO_NUMBER) {
            due("pair(" + n + ", 0, 0)", x.pair(n, 0, 0), BAD);
            due("pair(0, 0, " + n + ")", x.pair(0, 0, n), BAD);
            due("pair(0, " + n + ", 0)", x.pair(0, n, 0), NONE);
            due("pair(0, " + n + ", 1)", x.pair(0, n, 1), NONE);
            due("pair(0, " + n + ", 2)", x.pair(0, n, 2), NONE);
        }
        due("pair(0, 0, 3)", x.pair(0, 0, 3), BAD);
        due("pair(0, 9, 3)", x.pair(0, 9, 3), BAD);
        due("pair(1, 0, 0)", x.pair(1, 0, 0), BAD);
        due("pair(0, 0, 0)", x.pair(0, 0, 0), 258);
        due("pair(0, 0, 1)", x.pair(0, 0, 1), 65534);
        due("pair(0, 0, 2)", x.pair(0, 0, 2), NONE);
        due("pair(0, 1, 0)", x.pair(0, 1, 0), 65535);
        due("pair(0, 1, 1)", x.pair(0, 1, 1), 0);
        due("pair(0, 2, 0) with 3 bytes", x.pair(0, 2, 0), NONE);
        due("pair(0, 2, 2) with 3 bytes", x.pair(0, 2, 2), NONE);
        addAll(x, 0, 1);
        due("pair(0, 2, 1)", x.pair(0, 2, 1), 1);
        addAll(x, 0, 0, 0, 1, 1);
        due("pair(0, 1, 2)", x.pair(0, 1, 2), 0);
        due("pair(0, 2, 2)", x.pair(0, 2, 2), 1);
        due("pair(0, 3, 0), the COUNT", x.pair(0, 3, 0), NONE);
        x.raw(1, 8);
        addAll(x, 1, 0, 0, 0, 0, 0, 0, 0, 0, 0, 0);
        due("pair(1, 0, 2)", x.pair(1, 0, 2), 0);
        for (int what = 0; what < 3; what++) {
            due("pair(1, 1, " + what + "), the COUNT, with bytes before FIRST", x.pair(1, 1, what), NONE);
        }
    }

    private static void contentOfUnsignedBytes() {
        ObjectStreams x = withValues(4);
        x.raw(4, 16);
        addAll(x, 0, 0, 0, 0, 0, 0, 1, 1, 1, 0, 2, 1, 4, 0, 3, 1, 7);
        addAll(x, 0, 0, 255);
        for (int i = 0; i < 255; i++) {
            x.add(0, (byte) i);
        }
        addAll(x, 0, -56, 1, 77, -54, 0, 0, -55, 0);
        due("n of 255", x.pair(0, 0, 2), 255);
        due("s of 200", x.pair(0, 1, 2), 201);
        due("s of 202 behind 201", x.pair(0, 2, 2), NONE);
        due("s of 201 behind none", x.pair(0, 3, 2), NONE);
        due("row(1, 0, 1)", x.row(1, 0, 1), 0);
        due("size(1)", x.size(1), 201);
        due("at(1, 199)", Check.at(x, 1, 199), (byte) 199);
        due("at(1, 200)", Check.at(x, 1, 200), 77);
        due("at(1, 201)", Check.at(x, 1, 201), THROWS);
        due("row(0, 0, 0)", x.row(0, 0, 0), 0);
        due("at(0, 254)", Check.at(x, 0, 254), (byte) 254);
        due("change(0)", x.change(0), FULL);
    }

    private static void contentBehindNone() {
        ObjectStreams x = withValues(4);
        x.raw(4, 16);
        addAll(x, 0, 0, 0, 0, 0, 0, 1, 0, 4, 0, 2, 0, 0, 0, 3, 0, 7);
        addAll(x, 0, 0, 2, 8, 9, 3, 1, 5, 2, 1, 6);
        due("s of 3 behind 2", x.pair(0, 1, 2), NONE);
        due("s of 0 behind none", x.pair(0, 2, 2), 2);
        due("s of 2 behind 2", x.pair(0, 3, 2), 3);
        x.row(3, 0, 3);
        bytes("behind one behind none", x, 3, 8, 9, 6);

        ObjectStreams chain = withValues(4);
        chain.raw(4, 16);
        addAll(chain, 0, 0, 0, 0, 0, 0, 1, 0, 5, 0, 2, 0, 8, 0, 3, 0, 11);
        addAll(chain, 0, 0, 3, 1, 2, 3, 3, 1, 4, 2, 1, 5, 3, 0);
        for (int i = 0; i < 4; i++) {
            chain.row(i, 0, i);
        }
        bytes("chain", chain, 1, 1, 2, 3, 4);
        bytes("chain", chain, 2, 1, 2, 5);
        bytes("chain", chain, 3, 1, 2, 5);

        ObjectStreams first = withValues(1);
        first.raw(1, 4);
        addAll(first, 0, 0, 0, 0, 0, 1, 0);
        due("s of 1 behind nothing", first.pair(0, 0, 2), NONE);
    }

    private static void find() {
        ObjectStreams x = withValues(1);
        due("find without packs", x.find(0, 0), BAD);
        x.raw(3, 12);
        addAll(x, 0, 0, 5, 9, 9, 0, 6, 0, 0, 0, 5, 0, 0);
        x.raw(2, 8);
        addAll(x, 1, 0, 6, 0, 0, 0, 7, 0);
        x.raw(2, 8);
        addAll(x, 2, -1, -1, 0, 0, 0, 7, 0, 0);
        for (int n : NO_NUMBER) {
            due("find(5, " + n + ")", x.find(5, n), BAD);
            due("find(" + n + ", 0)", x.find(n, 0), NONE);
        }
        due("find(5, 3)", x.find(5, 3), BAD);
        due("the first, without content too", x.find(5, 0), 0);
        due("find(6, 0)", x.find(6, 0), 1);
        due("find(6, 1)", x.find(6, 1), 100);
        due("not THERE", x.find(7, 1), NONE);
        due("find(65535, 2)", x.find(65535, 2), 200);
        x.extend(1, 0);
        x.extend(2, 1);
        due("the pack itself first", x.find(6, 1), 100);
        due("in what it extends", x.find(6, 2), 100);
        due("in what that extends", x.find(5, 2), 0);
        due("find(7, 2)", x.find(7, 2), 201);
        due("not in what extends it", x.find(7, 0), NONE);
        due("NONE over all", x.find(NONE, 2), NONE);
        due("0 over all", x.find(0, 2), NONE);
    }

    private static void count() {
        ObjectStreams x = withValues(4);
        for (int n : new int[] {-1, 5, -2, Integer.MIN_VALUE, Integer.MAX_VALUE}) {
            due("count(" + n + ")", x.count(n), BAD);
        }
        due("object(1)", x.object(1), 4);
        putAll(x, 0, 1);
        putAll(x, 1, 1, 2);
        putAll(x, 4, 1);
        due("pack(1)", x.pack(1), 2);
        x.raw(1, 4);
        addAll(x, 2, 0);
        x.row(2, 2, 0);
        int[] want = {5, 3, 3, 1, 7 + 8 + 1};
        for (int what = 0; what < want.length; what++) {
            due("count(" + what + ")", x.count(what), want[what]);
        }
        x.row(0, 2, 0);
        due("count(3) with 0 and 2", x.count(3), 2);
        x.change(0);
        x.change(2);
        int[] later = {5, 3, 1, 0, 16};
        for (int what = 0; what < later.length; what++) {
            due("count(" + what + ") later", x.count(what), later[what]);
        }
    }
}
