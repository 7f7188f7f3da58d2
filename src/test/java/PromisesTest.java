/** Each sentence of the promises 1 to 18 by itself: what is ordinary, its edges, wrong inputs. */
public final class PromisesTest {
    private static final int NONE = Bench.NONE, BAD = Bench.BAD, STATE = Bench.STATE, FULL = Bench.FULL;
    private static final int THROWS = Bench.THROWS;
    private static final int LEAST = Integer.MIN_VALUE, GREATEST = Integer.MAX_VALUE;

    private static final Check CHECK = new Check("PromisesTest");

    public static void main(String[] args) {
        newObject();
        object();
        put();
        putRefused();
        change();
        changeRefused();
        changeOfMuch();
        changeOfLost();
        pack();
        packFull();
        size();
        at();
        atThrows();
        in();
        raw();
        rawRefused();
        add();
        octet();
        extend();
        extendItself();
        extendRefused();
        row();
        rowRefused();
        read();
        readObjects();
        readAgain();
        told();
        toldNone();
        toldLatest();
        pair();
        pairRefused();
        find();
        findExtended();
        count();
        CHECK.end();
    }

    private static void about(String words) {
        CHECK.about(words);
    }

    private static Bench bench(int values) {
        return new Bench(CHECK, values);
    }

    /** So many values with one byte, their number. */
    private static Bench benchOfOneByte(int values) {
        Bench x = bench(values);
        for (int i = 0; i < values; i++) {
            x.due(x.put(i, i), 1);
        }
        return x;
    }

    /** Two values and a stream; the values are in pack 0, the stream has a byte. */
    private static Bench packed() {
        Bench x = bench(2);
        x.due(x.object(1), 2);
        x.putAll(0, 1, 2, 3);
        x.putAll(1, 1, 2, 4, 5);
        x.putAll(2, 6);
        x.due(x.pack(2), 1);
        return x;
    }

    private static void newObject() {
        about("1: No objects, no packs");
        Bench x = bench(0);
        for (int what = 0; what <= 4; what++) {
            x.due(x.count(what), 0);
        }
        x.due(x.size(0), BAD);
        x.due(x.read(0), BAD);
        x.due(x.pack(1), 0);
        x.due(x.told(NONE, 0), 0);
        x.due(x.told(NONE, 1), 0);
        x.due(x.told(0, 0), NONE);
        packed();
        Bench other = bench(0);
        other.due(other.count(0), 0);
        other.due(other.count(1), 0);
        other.due(other.object(0), 0);
        other.due(other.raw(0, 0), 0);
    }

    private static void object() {
        about("2: An OWN object without bytes: its number");
        Bench x = bench(0);
        x.due(x.object(0), 0);
        x.due(x.object(1), 1);
        x.due(x.object(0), 2);
        for (int n = 0; n < 3; n++) {
            x.due(x.in(n), NONE);
            x.bytesDue(n);
        }
        x.raw(1, 4);
        x.due(x.row(0, 0, 0), 0);
        x.due(x.row(1, 0, 0), BAD);

        about("2: BAD when kind is not 0, 1");
        for (int kind : new int[] {-1, 2, -2, 256, 65536, LEAST, LEAST + 1, GREATEST}) {
            x.due(x.object(kind), BAD);
        }
        x.due(x.count(0), 3);
        x.due(x.object(0), 3);

        about("2: FULL");
        Bench full = bench(60);
        full.due(full.object(0), FULL);
        full.due(full.object(1), FULL);
        full.due(full.object(2), BAD);
        full.due(full.object(-1), BAD);
        full.due(full.count(0), 60);
        full.due(full.put(59, 1), 1);
        full.due(full.put(60, 1), BAD);
    }

    private static void put() {
        about("3: A byte behind an object's own: how many it has");
        Bench x = bench(2);
        x.due(x.object(1), 2);
        x.due(x.put(0, -128), 1);
        x.due(x.put(0, 127), 2);
        x.due(x.put(0, 0), 3);
        x.due(x.put(2, -1), 1);
        x.bytesDue(0, -128, 127, 0);
        x.bytesDue(1);
        x.bytesDue(2, -1);
    }

    private static void putRefused() {
        about("3: BAD when there is no such object");
        Bench x = packed();
        for (int n : Bench.NO_NUMBER) {
            x.due(x.put(n, 1), BAD);
        }
        x.due(x.put(3, 1), BAD);
        x.due(bench(0).put(0, 1), BAD);

        about("3: STATE when it is IN a PACK");
        x.due(x.put(0, 1), STATE);
        x.due(x.put(1, 1), STATE);
        x.due(x.put(2, 1), 2);
        x.due(x.row(0, 0, 50), 1);
        x.due(x.put(0, 1), STATE);
        x.due(x.change(0), NONE);
        x.due(x.put(0, 1), 1);
        Bench sixty = bench(1);
        sixty.putAll(0, new int[60]);
        sixty.due(sixty.pack(1), 1);
        sixty.due(sixty.put(0, 1), STATE);

        about("3: FULL when it has 60");
        Bench full = bench(2);
        full.putAll(0, new int[59]);
        full.due(full.put(0, 7), 60);
        full.due(full.put(0, 8), FULL);
        full.due(full.put(0, 9), FULL);
        full.due(full.size(0), 60);
        full.due(full.at(0, 59), 7);
        full.due(full.put(1, 1), 1);
    }

    private static void change() {
        about("4: An object that is IN a PACK becomes OWN, with the bytes that it has: how many");
        Bench x = packed();
        x.due(x.change(1), 4);
        x.due(x.in(1), NONE);
        x.bytesDue(1, 1, 2, 4, 5);
        x.due(x.put(1, 6), 5);
        x.bytesDue(1, 1, 2, 4, 5, 6);
        x.due(x.in(0), 0);
        x.due(x.pair(0, 1, 0), 1);
        x.due(x.pair(0, 1, 2), 4);
        x.due(x.count(2), 1);
        x.due(x.pack(1), 1);
        x.octetsDue(1, 0, 1, 0, 0, 0, 5, 1, 2, 4, 5, 6);
        x.due(x.change(0), 3);
        x.bytesDue(0, 1, 2, 3);
        Bench none = bench(1);
        none.raw(1, 4);
        none.addAll(0, 0, 0, 0, 0, 0, 0);
        none.due(none.row(0, 0, 0), 0);
        none.due(none.change(0), 0);
        none.due(none.in(0), NONE);
    }

    private static void changeRefused() {
        about("4: BAD");
        Bench x = packed();
        for (int n : Bench.NO_NUMBER) {
            x.due(x.change(n), BAD);
        }
        x.due(x.change(3), BAD);
        x.due(bench(0).change(0), BAD);

        about("4: STATE when it is OWN");
        x.due(x.change(2), STATE);
        x.due(x.change(0), 3);
        x.due(x.change(0), STATE);
        x.bytesDue(0, 1, 2, 3);
        x.due(x.row(1, 0, 0), 1);
        x.due(x.change(1), NONE);
        x.due(x.change(1), STATE);
        x.due(bench(1).change(0), STATE);
    }

    private static void changeOfMuch() {
        about("4: FULL when it has more than 60");
        Bench x = bench(4);
        x.raw(4, 16);
        x.addAll(0, 0, 0, 0, 0, 0, 1, 0, 62, 0, 2, 0, 65, 0, 3, 0, 67, 0, 60);
        for (int i = 0; i < 60; i++) {
            x.add(0, i + 1);
        }
        x.addAll(0, 60, 1, 99, 61, 0, 0, 61);
        x.addAll(0, new int[61]);
        for (int i = 0; i < 4; i++) {
            x.due(x.row(i, 0, i), 0);
        }
        x.due(x.change(0), 60);
        x.due(x.at(0, 0), 1);
        x.due(x.at(0, 59), 60);
        x.due(x.put(0, 1), FULL);
        for (int i = 1; i < 4; i++) {
            x.due(x.change(i), FULL);
            x.due(x.in(i), i);
            x.due(x.size(i), 61);
        }
        x.due(x.at(1, 60), 99);
        x.due(x.put(1, 1), STATE);
    }

    private static void changeOfLost() {
        about("4: One that is LOST becomes OWN without bytes: NONE");
        Bench x = packed();
        x.due(x.row(0, 0, 1), 1);
        x.due(x.change(0), NONE);
        x.due(x.in(0), NONE);
        x.bytesDue(0);
        x.due(x.put(0, 9), 1);
        x.bytesDue(0, 9);
        x.due(x.row(0, 0, 99), 0);
        x.due(x.change(0), NONE);
        x.bytesDue(0);
        x.due(x.row(0, 0, 0), 0);
        x.bytesDue(0, 1, 2, 3);
    }

    private static void pack() {
        about("5: All are packed: how many PACKS were made");
        Bench x = benchOfOneByte(11);
        x.raw(0, 0);
        x.due(x.pack(10), 2);
        x.due(x.count(1), 3);
        x.due(x.count(2), 11);
        x.due(x.in(0), 100);
        x.due(x.in(9), 109);
        x.due(x.in(10), 200);
        x.due(x.find(0, 2), NONE);
        x.due(x.pack(10), 0);
        x.due(x.count(1), 3);

        about("5: BAD when most is not 1 .. 10");
        Bench y = benchOfOneByte(12);
        for (int most : new int[] {0, 11, -1, 12, 256, 65536, LEAST, GREATEST}) {
            y.due(y.pack(most), BAD);
        }
        y.due(y.count(1), 0);
        y.due(y.count(2), 0);
        y.due(y.pack(1), 12);
        y.due(y.pack(0), BAD);
        y.due(y.change(3), 1);
        y.due(y.pack(10), 1);
    }

    private static void packFull() {
        about("5: FULL (and nothing is packed) when there would be more than 20");
        Bench x = benchOfOneByte(21);
        x.due(x.pack(1), FULL);
        x.due(x.count(1), 0);
        x.due(x.count(2), 0);
        x.due(x.count(4), 0);
        for (int i = 0; i < 21; i++) {
            x.due(x.in(i), NONE);
            x.due(x.at(i, 0), i);
        }
        x.due(x.put(20, 5), 2);
        x.due(x.raw(0, 0), 0);
        x.due(x.pack(2), 11);
        x.due(x.count(1), 12);
        x.due(x.in(20), 1100);
        for (int p = 12; p < 20; p++) {
            x.due(x.raw(0, 0), p);
        }
        x.due(x.pack(1), 0);
        x.due(x.pack(11), BAD);
        x.due(x.object(0), 21);
        x.due(x.pack(1), 0);
        x.due(x.put(21, 1), 1);
        x.due(x.pack(1), FULL);
        x.due(x.in(21), NONE);
        x.bytesDue(21, 1);

        Bench y = benchOfOneByte(20);
        y.due(y.pack(1), 20);
        y.due(y.in(0), 0);
        y.due(y.in(19), 1900);

        Bench one = benchOfOneByte(20);
        one.due(one.raw(0, 0), 0);
        one.due(one.pack(1), FULL);
        one.due(one.count(1), 1);
        one.due(one.pack(2), 10);
    }

    private static void size() {
        about("6: How many bytes an object has");
        Bench x = packed();
        x.due(x.size(0), 3);
        x.due(x.size(1), 4);
        x.due(x.size(2), 1);
        x.due(x.object(0), 3);
        x.due(x.size(3), 0);

        about("6: BAD");
        for (int n : Bench.NO_NUMBER) {
            x.due(x.size(n), BAD);
        }
        x.due(x.size(4), BAD);
        x.due(bench(0).size(0), BAD);

        about("6: NONE when it is LOST");
        x.due(x.row(0, 0, 1), 1);
        x.due(x.size(0), NONE);
        x.due(x.row(0, 0, 2), 1);
        x.due(x.size(0), NONE);
        x.due(x.change(0), NONE);
        x.due(x.size(0), 0);
    }

    private static void at() {
        about("7: Byte i of an object");
        Bench x = packed();
        x.bytesDue(0, 1, 2, 3);
        x.bytesDue(1, 1, 2, 4, 5);
        x.bytesDue(2, 6);
        Bench signs = bench(2);
        signs.putAll(0, -128, 127, -1);
        signs.putAll(1, -128, 127, -2);
        signs.bytesDue(1, -128, 127, -2);
        signs.pack(2);
        signs.bytesDue(0, -128, 127, -1);
        signs.bytesDue(1, -128, 127, -2);
    }

    private static void atThrows() {
        about("7: ArrayIndexOutOfBoundsException: there is no such object");
        Bench x = packed();
        for (int n : Bench.NO_NUMBER) {
            x.due(x.at(n, 0), THROWS);
        }
        x.due(x.at(3, 0), THROWS);
        x.due(bench(0).at(0, 0), THROWS);

        about("7: it is LOST");
        x.due(x.row(0, 0, 1), 1);
        x.due(x.at(0, 0), THROWS);
        x.due(x.at(0, NONE), THROWS);
        x.due(x.at(0, -2), THROWS);
        x.due(x.row(0, 0, 0), 1);
        x.due(x.at(0, 0), 1);

        about("7: or has none such");
        x.due(x.object(0), 3);
        for (int object = 0; object < 4; object++) {
            for (int i : new int[] {-1, -2, 4, 60, 65536, LEAST, GREATEST, GREATEST - 1}) {
                x.due(x.at(object, i), THROWS);
            }
        }
        x.due(x.at(0, 3), THROWS);
        x.due(x.at(1, 3), 5);
        x.due(x.at(2, 1), THROWS);
        x.due(x.at(3, 0), THROWS);
    }

    private static void in() {
        about("8: The PACK in which an object is, 100 times that, and its INDEX");
        Bench x = bench(1);
        for (int p = 0; p < 20; p++) {
            x.raw(0, 0);
        }
        for (int pack : new int[] {0, 1, 19}) {
            for (int index : new int[] {0, 1, 99}) {
                x.row(0, pack, index);
                x.due(x.in(0), 100 * pack + index);
            }
        }

        about("8: NONE when it is OWN");
        x.due(x.change(0), NONE);
        x.due(x.in(0), NONE);
        x.due(x.object(1), 1);
        x.due(x.in(1), NONE);

        about("8: BAD");
        for (int n : Bench.NO_NUMBER) {
            x.due(x.in(n), BAD);
        }
        x.due(x.in(2), BAD);
        x.due(bench(0).in(0), BAD);
    }

    private static void raw() {
        about("9: A PACK without bytes: its number");
        Bench x = bench(1);
        x.due(x.put(0, 1), 1);
        x.due(x.raw(0, 0), 0);
        x.due(x.pack(1), 1);
        x.due(x.raw(99, 600), 2);
        x.due(x.octet(0, 0), THROWS);
        x.due(x.octet(2, 0), THROWS);
        x.due(x.count(4), 7);
        x.due(x.find(0, 2), NONE);
        x.due(x.read(0), 0);
        x.toldDue();
        x.due(x.read(2), 0);
        x.due(x.told(NONE, 0), 99);
    }

    private static void rawRefused() {
        about("9: BAD when count is not 0 .. 99");
        Bench x = bench(0);
        for (int count : new int[] {-1, 100, 256, 65536, LEAST, GREATEST}) {
            x.due(x.raw(count, 0), BAD);
            x.due(x.raw(count, 600), BAD);
        }
        x.due(x.count(1), 0);
        x.due(x.raw(0, 4), 0);
        x.due(x.raw(99, 4), 1);

        about("9: first not 0 .. 600");
        for (int first : new int[] {-1, 601, 65536, LEAST, GREATEST}) {
            x.due(x.raw(0, first), BAD);
            x.due(x.raw(99, first), BAD);
        }
        x.due(x.count(1), 2);
        x.due(x.raw(1, 0), 2);
        x.due(x.raw(1, 600), 3);

        about("9: FULL");
        for (int p = 4; p < 20; p++) {
            x.due(x.raw(1, 1), p);
        }
        x.due(x.raw(1, 1), FULL);
        x.due(x.raw(100, 1), BAD);
        x.due(x.raw(1, 601), BAD);
        x.due(x.count(1), 20);
        x.due(x.add(19, 1), 1);
        x.due(x.add(20, 1), BAD);
        Bench packs = benchOfOneByte(20);
        packs.due(packs.pack(1), 20);
        packs.due(packs.raw(1, 1), FULL);
    }

    private static void add() {
        about("10: A byte behind a PACK's: how many it has");
        Bench x = packed();
        x.due(x.raw(0, 0), 1);
        x.due(x.raw(0, 0), 2);
        x.due(x.add(1, -128), 1);
        x.due(x.add(1, 127), 2);
        x.octetsDue(1, -128, 127);
        x.octetsDue(2);
        x.due(x.add(0, 9), 18);
        x.due(x.octet(0, 17), 9);
        x.due(x.count(4), 20);

        about("10: BAD when there is no such PACK");
        for (int n : Bench.NO_NUMBER) {
            x.due(x.add(n, 1), BAD);
        }
        x.due(x.add(3, 1), BAD);
        x.due(x.add(20, 1), BAD);
        x.due(bench(0).add(0, 1), BAD);

        about("10: FULL when it has 600");
        Bench full = Bench.broad(CHECK, 10, 54);
        full.due(full.pack(10), 1);
        full.due(full.add(1, 1), FULL);
        full.due(full.add(1, 2), FULL);
        full.due(full.octet(1, 599), 0);
        full.due(full.octet(1, 600), THROWS);
        full.due(full.count(4), 724);
        full.due(full.add(0, 1), 125);
        Bench nearly = Bench.broad(CHECK, 9, 60);
        nearly.due(nearly.pack(10), 1);
        nearly.addAll(1, 1, 2, 3, 4, 5);
        nearly.due(nearly.add(1, 6), 600);
        nearly.due(nearly.add(1, 7), FULL);
        nearly.due(nearly.octet(1, 599), 6);
    }

    private static void octet() {
        about("11: Byte i of a PACK");
        Bench x = packed();
        x.octetsDue(0, 0, 0, 0, 0, 0, 1, 0, 5, 0, 3, 1, 2, 3, 2, 2, 4, 5);
        x.due(x.raw(9, 2), 1);
        x.addAll(1, 3, -3, -128);
        x.octetsDue(1, 3, -3, -128);

        about("11: ArrayIndexOutOfBoundsException: there is no such PACK");
        for (int n : Bench.NO_NUMBER) {
            x.due(x.octet(n, 0), THROWS);
        }
        x.due(x.octet(2, 0), THROWS);
        x.due(bench(0).octet(0, 0), THROWS);

        about("11: or it has none such");
        x.due(x.raw(9, 600), 2);
        for (int i : new int[] {-1, -2, 3, 599, 600, 65536, LEAST, GREATEST}) {
            x.due(x.octet(1, i), THROWS);
        }
        x.due(x.octet(0, 16), 5);
        x.due(x.octet(0, 17), THROWS);
        x.due(x.octet(2, 0), THROWS);
    }

    /** Packs 0, 1, .. each with one pair, of the object with its own number. */
    private static Bench packsOfOne(int packs) {
        Bench x = bench(0);
        for (int p = 0; p < packs; p++) {
            x.due(x.raw(1, 4), p);
            x.addAll(p, 0, p, 0, 0);
        }
        return x;
    }

    private static void extend() {
        about("12: A PACK extends another one: 1");
        Bench x = packsOfOne(4);
        x.due(x.extend(0, 1), 1);
        x.due(x.find(1, 0), 100);
        x.due(x.find(0, 1), NONE);
        x.due(x.extend(2, 1), 1);
        x.due(x.find(1, 2), 100);
        x.due(x.extend(2, 1), 1);

        about("12: in place of what it extended");
        x.due(x.extend(0, 3), 1);
        x.due(x.find(3, 0), 300);
        x.due(x.find(1, 0), NONE);
        x.due(x.find(1, 2), 100);

        about("12: NONE: none");
        x.due(x.extend(0, NONE), 1);
        x.due(x.find(3, 0), NONE);
        x.due(x.extend(0, NONE), 1);
        x.due(x.find(0, 0), 0);
        x.due(x.extend(3, 0), 1);
    }

    private static void extendItself() {
        about("12: 0, and nothing is done, when it would extend itself by some way");
        Bench x = packsOfOne(4);
        x.due(x.extend(0, 0), 0);
        x.due(x.extend(0, 1), 1);
        x.due(x.extend(0, 0), 0);
        x.due(x.find(1, 0), 100);
        x.due(x.extend(1, 0), 0);
        x.due(x.find(0, 1), NONE);
        x.due(x.extend(1, 2), 1);
        x.due(x.extend(2, 0), 0);
        x.due(x.extend(2, 1), 0);
        x.due(x.extend(1, 0), 0);
        x.due(x.extend(1, 1), 0);
        x.due(x.find(2, 0), 200);
        x.due(x.find(0, 2), NONE);
        x.due(x.extend(0, 3), 1);
        x.due(x.extend(2, 0), 1);
        x.due(x.find(3, 1), 300);
        x.due(x.extend(3, 1), 0);
        x.due(x.extend(2, NONE), 1);
        x.due(x.extend(3, 1), 1);

        Bench chain = packsOfOne(20);
        for (int p = 0; p < 19; p++) {
            chain.due(chain.extend(p, p + 1), 1);
        }
        chain.due(chain.find(19, 0), 1900);
        for (int p = 0; p < 20; p++) {
            chain.due(chain.extend(19, p), 0);
        }
        chain.due(chain.find(0, 19), NONE);
        chain.due(chain.extend(0, 19), 1);
        chain.due(chain.find(1, 0), NONE);
        chain.due(chain.extend(19, 1), 0);
        chain.due(chain.extend(19, 0), 0);
    }

    private static void extendRefused() {
        about("12: BAD");
        Bench x = packsOfOne(2);
        x.due(x.extend(0, 1), 1);
        for (int n : Bench.NO_NUMBER) {
            x.due(x.extend(n, 0), BAD);
            x.due(x.extend(n, NONE), BAD);
            x.due(x.extend(n, n), BAD);
            if (n != NONE) {
                x.due(x.extend(0, n), BAD);
            }
        }
        x.due(x.extend(2, 0), BAD);
        x.due(x.extend(0, 2), BAD);
        x.due(x.extend(2, 2), BAD);
        x.due(x.find(1, 0), 100);
        Bench none = bench(0);
        none.due(none.extend(0, 0), BAD);
        none.due(none.extend(0, NONE), BAD);
    }

    private static void row() {
        about("13: An object is IN a PACK at an INDEX from now on (its own bytes are gone)");
        Bench x = bench(1);
        x.raw(1, 4);
        x.addAll(0, 0, 0, 0, 0, 0, 1, 5);
        x.putAll(0, 1, 2, 3);
        x.due(x.row(0, 0, 99), 0);
        x.due(x.in(0), 99);
        x.due(x.size(0), NONE);
        x.due(x.change(0), NONE);
        x.bytesDue(0);
        x.putAll(0, 1, 2, 3);
        x.due(x.row(0, 0, 0), 0);
        x.bytesDue(0, 5);
        x.due(x.change(0), 1);
        x.bytesDue(0, 5);
        x.octetsDue(0, 0, 0, 0, 0, 0, 1, 5);

        about("13: 1 if it was IN one before, else 0");
        x.due(x.row(0, 0, 0), 0);
        x.due(x.row(0, 0, 0), 1);
        x.due(x.row(0, 0, 98), 1);
        x.due(x.row(0, 0, 1), 1);
        x.due(x.change(0), NONE);
        x.due(x.row(0, 0, 1), 0);
        Bench packed = packed();
        packed.due(packed.row(1, 0, 1), 1);
    }

    private static void rowRefused() {
        about("13: BAD when there is no such object or PACK");
        Bench x = packed();
        for (int n : Bench.NO_NUMBER) {
            x.due(x.row(n, 0, 0), BAD);
            x.due(x.row(0, n, 0), BAD);
        }
        x.due(x.row(3, 0, 0), BAD);
        x.due(x.row(0, 1, 0), BAD);
        x.due(bench(1).row(0, 0, 0), BAD);
        Bench noObject = bench(0);
        noObject.raw(1, 4);
        noObject.due(noObject.row(0, 0, 0), BAD);

        about("13: it is a STREAM");
        x.due(x.row(2, 0, 0), BAD);
        x.due(x.row(2, 0, 99), BAD);
        x.due(x.in(2), NONE);
        x.bytesDue(2, 6);

        about("13: or index not 0 .. 99");
        x.due(x.change(0), 3);
        for (int index : new int[] {-1, 100, 256, 65536, LEAST, GREATEST}) {
            x.due(x.row(0, 0, index), BAD);
        }
        x.due(x.in(0), NONE);
        x.bytesDue(0, 1, 2, 3);
        x.due(x.row(0, 0, 99), 0);
        x.due(x.row(0, 0, 100), BAD);
        x.due(x.in(0), 99);
        x.due(x.row(0, 0, 0), 1);
        x.due(x.in(0), 0);
    }

    private static void read() {
        about("14: How many PAIRS of a PACK have CONTENT and are TRUE");
        Bench x = packed();
        x.due(x.read(0), 2);
        x.toldDue();
        x.due(x.change(0), 3);
        x.due(x.row(1, 0, 0), 1);
        x.due(x.read(0), 2);
        x.due(x.in(0), NONE);
        x.due(x.in(1), 0);
        Bench broken = bench(3);
        broken.raw(4, 12);
        broken.addAll(0, 0, 0, 0, 0, 0, 1, 0, 4, 0, 2, 0, 7, 0, 2, 8, 9, 2, 1, 5, 4, 0);
        broken.due(broken.read(0), 2);
        broken.toldDue(2, 2, 1, 3);

        about("14: BAD");
        for (int n : Bench.NO_NUMBER) {
            x.due(x.read(n), BAD);
        }
        x.due(x.read(1), BAD);
        x.due(bench(0).read(0), BAD);
    }

    private static void readObjects() {
        about("14: of an object that is there");
        Bench x = bench(1);
        x.due(x.object(1), 1);
        x.raw(4, 16);
        x.addAll(0, 0, 0, 0, 0, 0, 2, 0, 0, 0, 1, 0, 0, 1, 0, 0, 0, 0, 0);
        x.due(x.read(0), 1);
        x.toldDue(3, 1, 4, 2, 3, 3);
        x.due(x.object(0), 2);
        x.due(x.read(0), 2);
        x.toldDue(4, 2, 3, 3);
        Bench last = bench(60);
        last.raw(3, 12);
        last.addAll(0, 0, 59, 0, 0, 0, 60, 0, 0, 255, 255, 0, 0, 0, 0);
        last.due(last.read(0), 1);
        last.toldDue(3, 1, 3, 2);

        about("14: no STREAM");
        Bench streams = bench(0);
        streams.object(1);
        streams.object(0);
        streams.raw(2, 8);
        streams.addAll(0, 0, 0, 0, 0, 0, 1, 0, 0, 0, 0);
        streams.due(streams.read(0), 1);
        streams.toldDue(4, 0);
    }

    private static void readAgain() {
        about("14: and that no PAIR before (THERE) is of");
        Bench x = bench(2);
        x.raw(5, 16);
        x.addAll(0, 0, 0, 0, 0, 0, 0, 0, 0, 0, 1, 0, 0, 0, 0, 0, 0, 0, 0);
        x.due(x.read(0), 2);
        x.toldDue(5, 1, 5, 3, 1, 4);
        // A PAIR without CONTENT is THERE, and so the next one is not the first of its object.
        Bench none = bench(1);
        none.raw(2, 8);
        none.addAll(0, 0, 0, 9, 9, 0, 0, 0, 0, 0, 0);
        none.due(none.read(0), 0);
        none.toldDue(2, 0, 5, 1);
        // In another PACK, also in one that it extends, it may stand again.
        Bench other = bench(1);
        other.raw(1, 4);
        other.raw(1, 4);
        other.addAll(0, 0, 0, 0, 0, 0, 0);
        other.addAll(1, 0, 0, 0, 0, 0, 0);
        other.extend(1, 0);
        other.due(other.read(0), 1);
        other.due(other.read(1), 1);
        other.toldDue();
    }

    private static void told() {
        about("15: 0 what it is, 1 the PAIR: 1 it is not THERE, 2 it has no CONTENT, 3 there is no such object, "
            + "4 it is of a STREAM, 5 a PAIR before is of its object");
        Bench x = bench(2);
        x.due(x.object(1), 2);
        x.raw(6, 20);
        x.addAll(0, 0, 0, 0, 0, 0, 0, 0, 0, 0, 2, 0, 0, 0, 3, 0, 0, 0, 1, 9, 9, 0, 0);
        x.due(x.read(0), 1);
        x.toldDue(5, 1, 4, 2, 3, 3, 2, 4, 1, 5);

        about("15: of a PAIR the first of these alone");
        Bench y = bench(1);
        y.due(y.object(1), 1);
        y.raw(8, 28);
        // PAIR 1 is of a STREAM again, 3 of no object again; 4, 5, 6 are so too, without CONTENT.
        y.addAll(0, 0, 1, 0, 0, 0, 1, 0, 0, 0, 2, 0, 0, 0, 2, 0, 0);
        y.addAll(0, 0, 1, 9, 9, 0, 2, 9, 9, 0, 2, 9, 9, 0, 0);
        y.due(y.read(0), 0);
        y.toldDue(4, 0, 4, 1, 3, 2, 3, 3, 2, 4, 2, 5, 2, 6, 1, 7);
        Bench again = bench(1);
        again.raw(2, 8);
        again.addAll(0, 0, 0, 0, 0, 0, 0, 9, 9, 0, 0);
        again.due(again.read(0), 1);
        again.toldDue(2, 1);
    }

    private static void toldNone() {
        about("15: i = NONE: how many");
        Bench x = bench(1);
        x.raw(99, 4);
        x.addAll(0, 0, 0, 0, 0, 0, 0);
        x.due(x.read(0), 1);
        x.due(x.told(NONE, 0), 98);
        x.due(x.told(NONE, 1), 98);
        x.raw(99, 0);
        x.due(x.read(1), 0);
        x.due(x.told(NONE, 0), 99);
        x.due(x.told(98, 0), 1);
        x.due(x.told(98, 1), 98);
        x.due(x.told(99, 0), NONE);
        x.raw(0, 0);
        x.due(x.read(2), 0);
        x.due(x.told(NONE, 0), 0);

        about("15: NONE when there is none such");
        x.due(x.told(0, 0), NONE);
        x.due(x.told(0, 1), NONE);
        x.due(x.read(0), 1);
        x.due(x.told(0, 1), 1);
        x.due(x.told(97, 0), 1);
        x.due(x.told(97, 1), 98);
        for (int i : new int[] {98, 99, 100, -2, 65536, LEAST, GREATEST}) {
            x.due(x.told(i, 0), NONE);
            x.due(x.told(i, 1), NONE);
        }
        x.due(bench(0).told(0, 0), NONE);

        about("15: or what is not 0, 1");
        for (int what : new int[] {-1, 2, -2, 3, 256, 65536, LEAST, GREATEST}) {
            x.due(x.told(0, what), NONE);
            x.due(x.told(97, what), NONE);
            x.due(x.told(98, what), NONE);
        }
    }

    private static void toldLatest() {
        about("15: What the latest read() (that was not BAD) TOLD");
        Bench x = bench(1);
        x.due(x.told(NONE, 0), 0);
        x.due(x.read(0), BAD);
        x.due(x.told(NONE, 0), 0);
        x.raw(2, 4);
        x.addAll(0, 0, 0, 0, 0);
        x.raw(1, 4);
        x.due(x.read(0), 0);
        x.toldDue(2, 0, 1, 1);
        x.due(x.read(2), BAD);
        x.due(x.read(NONE), BAD);
        x.toldDue(2, 0, 1, 1);
        x.addAll(0, 0, 0);
        x.put(0, 1);
        x.due(x.pack(1), 1);
        x.toldDue(2, 0, 1, 1);
        x.due(x.read(1), 0);
        x.toldDue(1, 0);
        x.due(x.read(0), 1);
        x.toldDue(1, 1);
        x.due(x.read(2), 1);
        x.toldDue();
    }

    private static void pair() {
        about("16: Of a PAIR: 0 the object, 1 the place, 2 how long its CONTENT is (NONE without)");
        Bench x = bench(0);
        x.raw(4, 16);
        x.addAll(0, 1, 2, 255, 254, 255, 255, 0, 0, 0, 7, 0, 3, 0, 7, 0, 4, 0, 1, 0, 9);
        x.due(x.pair(0, 0, 0), 258);
        x.due(x.pair(0, 0, 1), 65534);
        x.due(x.pair(0, 0, 2), NONE);
        x.due(x.pair(0, 1, 0), 65535);
        x.due(x.pair(0, 1, 1), 0);
        x.due(x.pair(0, 1, 2), 1);
        x.due(x.pair(0, 2, 0), 7);
        x.due(x.pair(0, 2, 1), 3);
        x.due(x.pair(0, 2, 2), NONE);
        x.due(x.pair(0, 3, 2), NONE);
        x.addAll(0, 0, 0);
        x.due(x.pair(0, 3, 2), 0);
    }

    private static void pairRefused() {
        about("16: BAD when there is no such PACK");
        Bench x = packed();
        for (int n : Bench.NO_NUMBER) {
            x.due(x.pair(n, 0, 0), BAD);
            x.due(x.pair(n, 99, 2), BAD);
        }
        x.due(x.pair(1, 0, 0), BAD);
        x.due(bench(0).pair(0, 0, 0), BAD);

        about("16: or what");
        for (int what : new int[] {-1, 3, -2, 4, 256, 65536, LEAST, GREATEST}) {
            x.due(x.pair(0, 0, what), BAD);
            x.due(x.pair(0, 9, what), BAD);
            x.due(x.pair(0, -1, what), BAD);
        }

        about("16: NONE when it is not THERE");
        x.raw(3, 7);
        x.addAll(1, 0, 1, 0, 0, 0, 1, 0, 0, 0, 0, 0, 0);
        x.raw(2, 8);
        x.addAll(2, 0, 0, 0, 0, 0, 1, 0);
        for (int what = 0; what < 3; what++) {
            x.due(x.pair(1, 1, what), NONE);
            x.due(x.pair(1, 2, what), NONE);
            x.due(x.pair(2, 1, what), NONE);
        }

        about("16: or k not 0 up to COUNT");
        for (int k : new int[] {-1, -2, 2, 3, 99, 100, 65536, 1 << 30, LEAST, GREATEST}) {
            for (int what = 0; what < 3; what++) {
                x.due(x.pair(0, k, what), NONE);
            }
        }
        x.raw(1, 8);
        x.addAll(3, 0, 0, 0, 0, 0, 0, 0, 0, 0, 0);
        for (int what = 0; what < 3; what++) {
            x.due(x.pair(3, 0, what), 0);
            x.due(x.pair(3, 1, what), NONE);
        }
    }

    private static void find() {
        about("17: the first PAIR that is THERE and of it");
        Bench x = bench(1);
        x.raw(3, 12);
        x.addAll(0, 0, 5, 9, 9, 0, 6, 0, 0, 0, 5, 0, 0);
        x.due(x.find(5, 0), 0);
        x.due(x.find(6, 0), 1);
        x.raw(3, 8);
        x.addAll(1, 0, 6, 0, 0, 0, 8, 0);
        x.due(x.find(8, 1), NONE);
        x.addAll(1, 0);
        x.due(x.find(8, 1), 101);
        x.addAll(1, 0, 7, 0, 0);
        x.due(x.find(7, 1), NONE);

        about("17: by its number alone, also when there is no such object");
        x.due(x.row(0, 0, 0), 0);
        x.due(x.find(0, 0), NONE);
        x.raw(2, 8);
        x.addAll(2, 255, 255, 0, 0, 0, 0, 0, 0);
        x.due(x.find(65535, 2), 200);
        x.due(x.find(0, 2), 201);
        x.due(x.find(1, 2), NONE);
        for (int n : Bench.NO_NUMBER) {
            x.due(x.find(n, 0), NONE);
            x.due(x.find(n, 2), NONE);
        }
        x.due(x.find(131071, 2), NONE);

        about("17: BAD when there is no such PACK");
        for (int n : Bench.NO_NUMBER) {
            x.due(x.find(0, n), BAD);
            x.due(x.find(n, n), BAD);
        }
        x.due(x.find(0, 3), BAD);
        x.due(bench(1).find(0, 0), BAD);
    }

    private static void findExtended() {
        about("17: in the PACK, or else in that which it extends, and so on: 100 times the PACK, and k");
        Bench x = bench(0);
        x.raw(2, 8);
        x.addAll(0, 0, 5, 0, 0, 0, 6, 0, 0);
        x.raw(2, 8);
        x.addAll(1, 0, 7, 0, 0, 0, 6, 0, 0);
        x.raw(2, 8);
        x.addAll(2, 0, 8, 0, 0, 0, 7, 0, 0);
        x.extend(1, 0);
        x.extend(2, 1);
        x.due(x.find(8, 2), 200);
        x.due(x.find(7, 2), 201);
        x.due(x.find(6, 2), 101);
        x.due(x.find(5, 2), 0);
        x.due(x.find(6, 0), 1);
        x.due(x.find(7, 1), 100);

        about("17: NONE when there is none");
        x.due(x.find(9, 2), NONE);
        x.due(x.find(NONE, 2), NONE);
        x.due(x.find(0, 2), NONE);
        x.due(x.find(8, 1), NONE);
        x.due(x.find(7, 0), NONE);
        Bench all = bench(0);
        for (int p = 0; p < 20; p++) {
            all.due(all.raw(99, 600), p);
            all.extend(p, p - 1);
        }
        all.due(all.find(0, 19), NONE);
        all.addAll(0, 0, 1, 0, 0, 0, 0, 0, 0);
        all.due(all.find(0, 19), 1);
        all.due(all.find(2, 19), NONE);
    }

    private static void count() {
        about("18: Of all that there is: 0 objects, 1 PACKS, 2 objects that are IN PACKS, 3 those that are LOST, "
            + "4 bytes of all PACKS");
        Bench x = bench(4);
        x.due(x.object(1), 4);
        x.putAll(0, 1);
        x.putAll(1, 1, 2);
        x.putAll(4, 1);
        x.due(x.pack(1), 2);
        x.raw(1, 4);
        x.addAll(2, 0);
        x.row(2, 2, 0);
        counts(x, 5, 3, 3, 1, 7 + 8 + 1);
        x.row(0, 2, 0);
        counts(x, 5, 3, 3, 2, 16);
        x.change(0);
        x.change(2);
        counts(x, 5, 3, 1, 0, 16);
        x.raw(1, 4);
        x.addAll(3, 0, 3, 0, 0, 0, 0);
        x.row(3, 3, 0);
        counts(x, 5, 4, 2, 0, 22);

        Bench most = bench(60);
        for (int p = 0; p < 20; p++) {
            most.raw(0, 0);
        }
        for (int i = 0; i < 60; i++) {
            most.row(i, 19, 99);
        }
        counts(most, 60, 20, 60, 60, 0);

        about("18: BAD for others");
        for (int what : new int[] {-1, 5, -2, 6, 256, 65536, LEAST, GREATEST}) {
            x.due(x.count(what), BAD);
        }
    }

    private static void counts(Bench x, int... want) {
        for (int what = 0; what < want.length; what++) {
            x.due(x.count(what), want[what]);
        }
    }
}
