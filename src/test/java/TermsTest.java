/** Each sentence of the document's Terms that names a boundary, by itself. */
public final class TermsTest {
    private static final int NONE = Bench.NONE, BAD = Bench.BAD, STATE = Bench.STATE, FULL = Bench.FULL;
    private static final int THROWS = Bench.THROWS;

    private static final Check CHECK = new Check("TermsTest");

    public static void main(String[] args) {
        calls();
        objects();
        streams();
        ownBytes();
        packs();
        octets();
        pairsUpToCount();
        pairNumbers();
        pairsThere();
        pairsBeforeFirst();
        contentPlace();
        contentLengths();
        contentOfTheOneBefore();
        contentOfNoPair();
        contentWithoutItsBytes();
        contentWithTooGreatS();
        contentBehindNone();
        contentOfPairZero();
        bytesOfAnObject();
        lost();
        packedObjects();
        packBegins();
        packFewest();
        packAlikeNoFurther();
        packLeast();
        packEnds();
        packEndsAt600();
        packBeginsBehind600();
        packCountAndFirst();
        packPlaces();
        packS();
        packedThen();
        CHECK.end();
    }

    private static void about(String words) {
        CHECK.about(words);
    }

    private static Bench bench(int values) {
        return new Bench(CHECK, values);
    }

    /** A pack, given by its count, its first and its bytes. */
    private static Bench packOf(int values, int count, int first, int... bytes) {
        Bench x = bench(values);
        x.due(x.raw(count, first), 0);
        x.addAll(0, bytes);
        return x;
    }

    private static void calls() {
        about("An object is used for at most 512 calls after it has been made");
        Bench x = bench(1);
        for (int call = 2; call <= 510; call++) {
            x.due(x.size(0), 0);
        }
        x.due(x.put(0, 9), 1);
        x.due(x.at(0, 0), 9);
        x.due(x.calls(), 512);
    }

    private static void objects() {
        about("OBJECTS are 0, 1, .. (60 at most)");
        Bench x = bench(59);
        x.due(x.size(59), BAD);
        x.due(x.object(0), 59);
        x.due(x.object(0), FULL);
        x.due(x.size(0), 0);
        x.due(x.size(59), 0);
        x.due(x.size(60), BAD);
        x.due(x.count(0), 60);
    }

    private static void streams() {
        about("1 a STREAM, which is never in a PACK");
        Bench x = new Bench(CHECK);
        x.due(x.object(1), 0);
        x.due(x.object(0), 1);
        x.putAll(0, 1, 2);
        x.putAll(1, 1, 2);
        x.due(x.pack(10), 1);
        x.octetsDue(0, 0, 1, 0, 0, 0, 2, 1, 2);
        x.due(x.in(0), NONE);
        x.due(x.row(0, 0, 0), BAD);
        x.due(x.in(0), NONE);
        x.due(x.change(0), STATE);
        x.due(x.count(2), 1);
        x.bytesDue(0, 1, 2);
    }

    private static void ownBytes() {
        about("with bytes of its own (60 at most)");
        for (int kind = 0; kind < 2; kind++) {
            Bench x = new Bench(CHECK);
            x.object(kind);
            for (int i = 0; i < 60; i++) {
                x.due(x.put(0, i), i + 1);
            }
            x.due(x.put(0, 60), FULL);
            x.due(x.size(0), 60);
            x.due(x.at(0, 59), 59);
            x.due(x.at(0, 60), THROWS);
        }
    }

    private static void packs() {
        about("PACKS are 0, 1, .. (20 at most)");
        Bench x = bench(0);
        for (int p = 0; p < 20; p++) {
            x.due(x.read(p), BAD);
            x.due(x.raw(0, 0), p);
            x.due(x.read(p), 0);
        }
        x.due(x.raw(0, 0), FULL);
        x.due(x.read(20), BAD);
        x.due(x.count(1), 20);
    }

    private static void octets() {
        about("rows of bytes (600 at most)");
        Bench x = Bench.broad(CHECK, 9, 60);
        x.due(x.pack(10), 1);
        for (int i = 594; i < 600; i++) {
            x.due(x.octet(1, i), THROWS);
            x.due(x.add(1, i), i + 1);
        }
        x.due(x.add(1, 1), FULL);
        x.due(x.octet(1, 594), (byte) 594);
        x.due(x.octet(1, 599), (byte) 599);
        x.due(x.octet(1, 600), THROWS);
    }

    private static void pairsUpToCount() {
        about("PAIR k (0 up to COUNT, without that)");
        Bench x = packOf(1, 2, 600, 0, 5, 0, 0, 0, 6, 0, 0, 0, 0, 0, 0, 0, 8, 0, 0);
        x.due(x.pair(0, 0, 0), 5);
        x.due(x.pair(0, 1, 0), 6);
        for (int what = 0; what < 3; what++) {
            x.due(x.pair(0, -1, what), NONE);
            x.due(x.pair(0, 2, what), NONE);
        }
        x.due(x.find(0, 0), NONE);
        x.due(x.find(8, 0), NONE);
        x.due(x.read(0), 0);
        x.toldDue(2, 0, 2, 1);
        x.due(x.row(0, 0, 2), 0);
        x.lostDue(0);

        Bench none = packOf(1, 0, 4, 0, 0, 0, 0, 0, 0);
        none.due(none.pair(0, 0, 0), NONE);
        none.due(none.find(0, 0), NONE);
        none.due(none.read(0), 0);
        none.toldDue();
        none.due(none.row(0, 0, 0), 0);
        none.lostDue(0);

        // 4 k would wrap around to the places of PAIR 0 and PAIR 1.
        Bench far = packOf(0, 2, 8, 0, 0, 0, 0, 0, 1, 0, 0, 0, 0);
        for (int k : new int[] {1 << 30, (1 << 30) + 1, 1 << 31, (1 << 31) + 1, 3 << 30, -1, -2}) {
            for (int what = 0; what < 3; what++) {
                far.due(far.pair(0, k, what), NONE);
            }
        }

        Bench most = packOf(0, 99, 600, new int[395]);
        most.due(most.pair(0, 97, 1), 0);
        most.due(most.pair(0, 98, 1), NONE);
        most.due(most.add(0, 7), 396);
        most.due(most.pair(0, 98, 1), 7);
        most.due(most.pair(0, 99, 1), NONE);
        most.addAll(0, 0, 0, 0, 0);
        most.due(most.pair(0, 99, 1), NONE);
        most.due(most.read(0), 0);
        most.due(most.told(NONE, 0), 99);
    }

    private static void pairNumbers() {
        about("is four bytes from 4 k on: two numbers of two bytes, the highest first: an object, a place");
        Bench x = packOf(0, 5, 20, 1, 2, 3, 4, 127, 255, 128, 0, 255, 255, 255, 255, 0, 255, 0, 128, 0, 0, 255, 0);
        int[] want = {258, 772, 32767, 32768, 65535, 65535, 255, 128, 0, 65280};
        for (int i = 0; i < want.length; i++) {
            x.due(x.pair(0, i / 2, i % 2), want[i]);
        }
        x.due(x.find(258, 0), 0);
        x.due(x.find(513, 0), NONE);
        x.due(x.find(65535, 0), 2);
        x.due(x.find(-1, 0), NONE);
        x.due(x.find(255, 0), 3);
    }

    private static void pairsThere() {
        about("It is THERE if these bytes are");
        Bench x = packOf(1, 2, 8);
        for (int length = 0; length <= 8; length++) {
            x.due(x.pair(0, 0, 0), length < 4 ? NONE : 0);
            x.due(x.pair(0, 0, 1), length < 4 ? NONE : 9);
            x.due(x.pair(0, 1, 0), length < 8 ? NONE : 0);
            x.due(x.pair(0, 1, 1), length < 8 ? NONE : 9);
            x.due(x.find(0, 0), length < 4 ? NONE : 0);
            x.due(x.read(0), 0);
            x.toldDue(length < 4 ? 1 : 2, 0, length < 8 ? 1 : 2, 1);
            x.add(0, length % 4 == 3 ? 9 : 0);
        }
    }

    private static void pairsBeforeFirst() {
        about("and lie before FIRST");
        for (int first = 0; first <= 9; first++) {
            Bench x = packOf(0, 2, first, 0, 5, 0, 0, 0, 6, 0, 0, 0, 0);
            x.due(x.pair(0, 0, 0), first < 4 ? NONE : 5);
            x.due(x.pair(0, 1, 1), first < 8 ? NONE : 0);
            x.due(x.find(5, 0), first < 4 ? NONE : 0);
            x.due(x.find(6, 0), first < 8 ? NONE : 1);
            x.due(x.read(0), 0);
            x.due(x.told(0, 0) == 1 ? 1 : 0, first < 4 ? 1 : 0);
            x.due(x.told(1, 0) == 1 ? 1 : 0, first < 8 ? 1 : 0);
        }
        Bench last = packOf(0, 1, 600, 0, 5, 0, 0);
        last.due(last.pair(0, 0, 0), 5);
    }

    private static void contentPlace() {
        about("Its CONTENT begins at FIRST and the place");
        Bench x = packOf(2, 2, 10, 0, 0, 0, 0, 0, 1, 0, 3, 0, 2, 0, 1, 7, 0, 2, 8, 9);
        x.row(0, 0, 0);
        x.row(1, 0, 1);
        x.bytesDue(0, 7);
        x.bytesDue(1, 8, 9);

        Bench backwards = packOf(2, 2, 8, 0, 0, 0, 3, 0, 1, 0, 0, 1, 1, 7, 0, 2, 8, 9);
        backwards.row(0, 0, 0);
        backwards.row(1, 0, 1);
        backwards.bytesDue(0, 8, 9);
        backwards.bytesDue(1, 8, 7);

        Bench far = packOf(1, 1, 4, 0, 0, 1, 4);
        far.addAll(0, new int[260]);
        far.due(far.pair(0, 0, 2), NONE);
        far.addAll(0, 0, 1);
        far.due(far.pair(0, 0, 2), NONE);
        far.add(0, 55);
        far.row(0, 0, 0);
        far.bytesDue(0, 55);

        // Of two bytes with a sign the place would be 8 less than FIRST, or wrap around to 0.
        Bench wrapped = packOf(0, 2, 16, 0, 0, 255, 248, 0, 0, 255, 240, 0, 0, 0, 0);
        wrapped.addAll(0, new int[8]);
        wrapped.due(wrapped.pair(0, 0, 1), 65528);
        wrapped.due(wrapped.pair(0, 0, 2), NONE);
        wrapped.due(wrapped.pair(0, 1, 2), NONE);

        Bench behindAll = packOf(0, 1, 600, 0, 0, 0, 0, 0, 0);
        behindAll.due(behindAll.pair(0, 0, 2), NONE);
    }

    private static void contentLengths() {
        about("a byte s, a byte n, and n bytes");
        Bench empty = packOf(1, 1, 4, 0, 0, 0, 0, 0, 0);
        empty.row(0, 0, 0);
        empty.bytesDue(0);
        empty.due(empty.pair(0, 0, 2), 0);
        empty.due(empty.count(3), 0);

        Bench x = packOf(3, 3, 12, 0, 0, 0, 0, 0, 1, 1, 1, 0, 2, 1, 4, 0, 255);
        for (int i = 0; i < 255; i++) {
            x.add(0, i);
        }
        x.addAll(0, 255, 1, 77, 128, 0);
        for (int i = 0; i < 3; i++) {
            x.row(i, 0, i);
        }
        x.due(x.pair(0, 0, 2), 255);
        x.due(x.pair(0, 1, 2), 256);
        x.due(x.pair(0, 2, 2), 128);
        x.due(x.size(0), 255);
        x.due(x.at(0, 254), (byte) 254);
        x.due(x.at(0, 255), THROWS);
        x.due(x.at(1, 254), (byte) 254);
        x.due(x.at(1, 255), 77);
        x.due(x.at(1, 256), THROWS);
        x.due(x.at(2, 127), 127);
        x.due(x.at(2, 128), THROWS);
    }

    private static void contentOfTheOneBefore() {
        about("it is the first s bytes of the CONTENT of the PAIR before, and these behind them");
        Bench x = packOf(5, 5, 20,
            0, 0, 0, 0, 0, 1, 0, 5, 0, 2, 0, 8, 0, 3, 0, 11, 0, 4, 0, 13,
            0, 3, 1, 2, 3, 3, 1, 4, 2, 1, 5, 3, 0, 0, 1, 6);
        for (int i = 0; i < 5; i++) {
            x.row(i, 0, i);
        }
        x.bytesDue(0, 1, 2, 3);
        x.bytesDue(1, 1, 2, 3, 4);
        x.bytesDue(2, 1, 2, 5);
        x.bytesDue(3, 1, 2, 5);
        x.bytesDue(4, 6);
    }

    private static void contentOfNoPair() {
        about("It has none, if the PAIR is not THERE");
        Bench x = packOf(2, 2, 4, 0, 0, 0, 0, 0, 1, 0, 0, 0, 0);
        x.row(0, 0, 0);
        x.row(1, 0, 1);
        x.bytesDue(0, 0);
        x.due(x.pair(0, 1, 2), NONE);
        x.lostDue(1);
        x.due(x.read(0), 1);
        x.toldDue(1, 1);
    }

    private static void contentWithoutItsBytes() {
        about("one of these bytes is not");
        int[] bytes = {0, 2, 8, 9};
        Bench x = packOf(1, 1, 4, 0, 0, 0, 0);
        x.row(0, 0, 0);
        for (int b : bytes) {
            x.due(x.pair(0, 0, 2), NONE);
            x.lostDue(0);
            x.due(x.read(0), 0);
            x.toldDue(2, 0);
            x.add(0, b);
        }
        x.due(x.pair(0, 0, 2), 2);
        x.bytesDue(0, 8, 9);
        x.due(x.read(0), 1);
    }

    private static void contentWithTooGreatS() {
        about("or s is more than the PAIR before has");
        for (int s = 0; s <= 4; s++) {
            Bench x = packOf(2, 2, 8, 0, 0, 0, 0, 0, 1, 0, 5, 0, 3, 1, 2, 3, s, 1, 9);
            x.row(1, 0, 1);
            x.due(x.pair(0, 1, 2), s > 3 ? NONE : s + 1);
            x.due(x.size(1), s > 3 ? NONE : s + 1);
            x.due(x.at(1, s), s > 3 ? THROWS : 9);
            x.due(x.read(0), s > 3 ? 1 : 2);
        }
        // How many the PAIR before has is what it is with its own s, not its n alone.
        Bench both = packOf(3, 3, 12, 0, 0, 0, 0, 0, 1, 0, 4, 0, 2, 0, 7, 0, 2, 1, 2, 2, 1, 3, 3, 1, 4);
        both.row(2, 0, 2);
        both.bytesDue(2, 1, 2, 3, 4);
        Bench more = packOf(3, 3, 12, 0, 0, 0, 0, 0, 1, 0, 4, 0, 2, 0, 7, 0, 2, 1, 2, 2, 1, 3, 4, 1, 4);
        more.row(2, 0, 2);
        more.lostDue(2);
        // 128 and more are no numbers below 0.
        Bench great = packOf(2, 2, 8, 0, 0, 0, 0, 0, 1, 0, 3, 0, 1, 1, 255, 0);
        great.due(great.pair(0, 1, 2), NONE);
    }

    private static void contentBehindNone() {
        about("(0, if that has no CONTENT");
        for (int s = 0; s <= 2; s++) {
            Bench x = packOf(3, 3, 12, 0, 0, 0, 0, 0, 1, 0, 4, 0, 2, 0, 7, 0, 2, 1, 2, 3, 1, 3, s, 1, 9);
            x.row(2, 0, 2);
            x.due(x.pair(0, 1, 2), NONE);
            x.due(x.pair(0, 2, 2), s == 0 ? 1 : NONE);
            x.due(x.size(2), s == 0 ? 1 : NONE);
            x.due(x.at(2, 0), s == 0 ? 9 : THROWS);
            x.due(x.read(0), s == 0 ? 2 : 1);
        }
        Bench farBefore = packOf(2, 2, 8, 0, 0, 9, 9, 0, 1, 0, 0, 0, 1, 5);
        farBefore.row(1, 0, 1);
        farBefore.bytesDue(1, 5);
    }

    private static void contentOfPairZero() {
        about("or there is none before)");
        for (int s = 0; s <= 2; s++) {
            Bench x = packOf(1, 1, 4, 0, 0, 0, 0, s, 2, 8, 9);
            x.row(0, 0, 0);
            x.due(x.pair(0, 0, 2), s == 0 ? 2 : NONE);
            x.due(x.size(0), s == 0 ? 2 : NONE);
            x.due(x.read(0), s == 0 ? 1 : 0);
        }
    }

    private static void bytesOfAnObject() {
        about("THE BYTES of an object: its own");
        Bench x = packOf(2, 1, 4, 0, 0, 0, 0, 0, 1, 9);
        x.bytesDue(0);
        x.putAll(0, 1, 2);
        x.bytesDue(0, 1, 2);

        about("of one that is IN a PACK the CONTENT of the PAIR at its INDEX, if that is of this object");
        x.row(0, 0, 0);
        x.bytesDue(0, 9);
        Bench twice = packOf(1, 2, 8, 0, 0, 0, 0, 0, 0, 0, 3, 0, 1, 5, 0, 2, 6, 7);
        twice.row(0, 0, 1);
        twice.bytesDue(0, 6, 7);
        twice.row(0, 0, 0);
        twice.bytesDue(0, 5);
        Bench low = bench(1);
        low.raw(1, 4);
        low.row(0, 0, 0);
        low.lostDue(0);
        low.addAll(0, 0, 0, 0, 0, 0, 1, 7);
        low.bytesDue(0, 7);
    }

    private static void lost() {
        about("else it is LOST, and has none");
        Bench x = packOf(3, 2, 8, 0, 1, 0, 0, 0, 2, 0, 0, 0, 1, 5);
        x.putAll(0, 1, 2, 3);
        x.row(0, 0, 0);
        x.lostDue(0);
        x.row(1, 0, 1);
        x.lostDue(1);
        x.row(2, 0, 2);
        x.lostDue(2);
        x.row(2, 0, 99);
        x.lostDue(2);
        x.due(x.count(3), 3);
        x.due(x.row(2, 0, 1), 1);
        x.bytesDue(2, 5);
        x.due(x.count(3), 2);
        // The object is of two bytes: 256 is not 0.
        Bench high = packOf(1, 1, 4, 1, 0, 0, 0, 0, 0);
        high.row(0, 0, 0);
        high.lostDue(0);
        // What the PACK extends is not asked.
        Bench extended = packOf(1, 1, 4, 0, 0, 0, 0, 0, 1, 5);
        extended.raw(1, 4);
        extended.extend(1, 0);
        extended.row(0, 1, 0);
        extended.lostDue(0);
    }

    private static void packedObjects() {
        about("as long as there are OWN VALUES with bytes (objects with none are left out)");
        Bench x = packOf(5, 1, 4, 0, 3, 0, 0, 0, 1, 9);
        x.object(1);
        x.putAll(1, 4);
        x.putAll(3, 4);
        x.putAll(5, 4);
        x.row(3, 0, 0);
        x.row(4, 0, 7);
        x.due(x.pack(10), 1);
        x.octetsDue(1, 0, 1, 0, 0, 0, 1, 4);
        x.due(x.in(0), NONE);
        x.due(x.in(2), NONE);
        x.due(x.in(3), 0);
        x.due(x.in(4), 7);
        x.due(x.in(5), NONE);
        x.due(x.pack(10), 0);
        x.due(x.change(3), 1);
        x.due(x.change(4), NONE);
        x.due(x.pack(10), 1);
        x.octetsDue(2, 0, 3, 0, 0, 0, 1, 9);
        x.due(x.in(4), NONE);
        x.due(bench(0).pack(1), 0);
    }

    private static void packBegins() {
        about("a PACK is begun with the least of them");
        Bench x = bench(5);
        x.putAll(1, 1, 1, 1);
        x.putAll(2, 2);
        x.putAll(3, 1, 1);
        x.putAll(4, 3);
        x.due(x.pack(2), 2);
        x.due(x.in(1), 0);
        x.due(x.in(3), 1);
        x.due(x.in(2), 100);
        x.due(x.in(4), 101);
    }

    private static void packFewest() {
        about("the one of them of which the fewest bytes are to be written");
        Bench x = bench(6);
        x.putAll(0, 7, 7);
        x.putAll(1, 1, 2, 3);
        x.putAll(2, 7, 7, 8, 8);
        x.putAll(3, 7, 9);
        x.putAll(4, 7, 9, 1);
        x.putAll(5, 2);
        x.due(x.pack(10), 1);
        // behind 0: 3 and 5 have one byte to write; behind 3: 4 and 5; behind 4: 5; behind 5: 1 has 3, 2 has 4
        int[] order = {0, 3, 4, 5, 1, 2};
        for (int k = 0; k < order.length; k++) {
            x.due(x.pair(0, k, 0), order[k]);
        }

        about("its length less as many as both have alike from the beginning on");
        Bench y = bench(5);
        y.putAll(0, 1, 2, 3, 4);
        y.putAll(1, 5, 2, 3, 4);
        y.putAll(2, 1, 2, 3, 4, 5, 6, 7);
        y.putAll(3, 1, 5, 3, 4);
        y.putAll(4, 1, 2);
        y.due(y.pack(10), 1);
        // behind 0: 4 has none to write, 2 and 3 three, 1 four; behind 4: 3 has three, 1 four, 2 five
        int[] likeness = {0, 4, 3, 1, 2};
        for (int k = 0; k < likeness.length; k++) {
            y.due(y.pair(0, k, 0), likeness[k]);
        }
    }

    /** What lies behind an object's bytes, or lay there once, is not alike. */
    private static void packAlikeNoFurther() {
        about("as many as both have alike from the beginning on (no further than both have bytes)");
        Bench x = bench(3);
        x.putAll(0, 1, 0, 0);
        x.putAll(1, 1);
        x.putAll(2, 1, 0);
        x.due(x.pack(10), 1);
        x.octetsDue(0, 0, 0, 0, 0, 0, 1, 0, 5, 0, 2, 0, 7, 0, 3, 1, 0, 0, 1, 0, 1, 1, 0);

        Bench once = bench(2);
        once.raw(0, 0);
        once.putAll(0, 1, 2, 3, 4);
        once.due(once.row(0, 0, 0), 0);
        once.due(once.change(0), NONE);
        once.putAll(0, 1, 2);
        once.putAll(1, 1, 2, 3, 4);
        once.due(once.pack(10), 1);
        once.octetsDue(1, 0, 0, 0, 0, 0, 1, 0, 4, 0, 2, 1, 2, 2, 2, 3, 4);

        Bench all = bench(2);
        all.putAll(0, new int[60]);
        all.putAll(1, new int[60]);
        all.due(all.pack(10), 1);
        all.due(all.count(4), 8 + 62 + 2);
        all.due(all.octet(0, 70), 60);
        all.due(all.octet(0, 71), 0);
        all.due(all.size(1), 60);
    }

    private static void packLeast() {
        about("of several the least");
        Bench x = bench(5);
        x.putAll(0, 9);
        x.putAll(1, 1, 1);
        x.putAll(2, 2, 2);
        x.putAll(3, 9);
        x.putAll(4, 9);
        x.due(x.pack(10), 1);
        int[] order = {0, 3, 4, 1, 2};
        for (int k = 0; k < order.length; k++) {
            x.due(x.pair(0, k, 0), order[k]);
        }
    }

    private static void packEnds() {
        about("It ends when it has MOST objects, none is left");
        for (int most = 1; most <= 10; most++) {
            Bench x = bench(20);
            for (int i = 0; i < 20; i++) {
                x.put(i, 1);
            }
            x.due(x.pack(most), (20 + most - 1) / most);
            for (int i = 0; i < 20; i++) {
                x.due(x.in(i), 100 * (i / most) + i % most);
            }
            x.due(x.read(0), most);
            x.toldDue();
        }
        Bench all = bench(60);
        for (int i = 0; i < 60; i++) {
            all.put(i, i);
        }
        all.due(all.pack(10), 6);
        for (int i = 0; i < 60; i++) {
            all.due(all.in(i), 100 * (i / 10) + i % 10);
            all.due(all.at(i, 0), i);
        }
    }

    private static void packEndsAt600() {
        about("or the next one would bring it to more than 600 bytes");
        Bench x = Bench.broad(CHECK, 10, 54);
        x.due(x.pack(10), 1);
        x.due(x.in(9), 109);
        x.due(x.octet(1, 599), 0);
        x.due(x.octet(1, 600), THROWS);
        x.due(x.count(4), 600 + 124);
        x.due(x.size(9), 54);
        x.due(x.at(9, 0), 109);

        Bench y = Bench.broad(CHECK, 10, 54);
        y.due(y.put(9, 1), 55);
        y.due(y.pack(10), 2);
        y.due(y.in(8), 108);
        y.due(y.in(9), 200);
        y.due(y.count(4), 124 + 540 + 61);
        y.due(y.read(1), 9);
        y.toldDue();
        y.due(y.read(2), 1);

        // What is alike is not written: 60 bytes of which 6 are like those of the one before still have room.
        for (int alike = 5; alike <= 6; alike++) {
            Bench z = Bench.broad(CHECK, 9, 54);
            z.due(z.object(0), 9);
            z.putAll(9, 108);
            for (int i = 1; i < 60; i++) {
                z.put(9, i < alike ? 0 : 1);
            }
            z.due(z.pack(10), alike == 6 ? 1 : 2);
            z.due(z.in(8), 108);
            z.due(z.in(9), alike == 6 ? 109 : 200);
        }
    }

    /** Behind 8 comes 10, for which there is no room; so 9, the least, begins the next one. */
    private static void packBeginsBehind600() {
        about("a PACK is begun with the least of them (not with the one that had no room)");
        Bench x = Bench.broad(CHECK, 10, 60);
        x.due(x.object(0), 10);
        for (int i = 0; i < 60; i++) {
            x.put(10, i < 50 ? x.at(8, i) : 1);
        }
        x.due(x.pack(10), 2);
        x.due(x.in(8), 108);
        x.due(x.in(9), 200);
        x.due(x.in(10), 201);
    }

    private static void packCountAndFirst() {
        about("Its COUNT is how many there are, FIRST 4 times that");
        Bench x = bench(3);
        for (int i = 0; i < 3; i++) {
            x.putAll(i, 0, i, 0, 0);
        }
        x.due(x.pack(2), 2);
        x.due(x.read(0), 2);
        x.toldDue();
        x.due(x.pair(0, 1, 0), 1);
        x.due(x.pair(0, 2, 0), NONE);
        x.due(x.read(1), 1);
        x.toldDue();
        x.due(x.pair(1, 0, 2), 4);
        x.due(x.pair(1, 1, 0), NONE);
        x.bytesDue(2, 0, 2, 0, 0);
    }

    private static void packPlaces() {
        about("PAIRS in order, CONTENTS one behind the other");
        Bench x = Bench.broad(CHECK, 6, 60);
        x.due(x.pack(10), 1);
        for (int k = 0; k < 6; k++) {
            x.due(x.pair(1, k, 0), k);
            x.due(x.pair(1, k, 1), 62 * k);
            x.due(x.octet(1, 4 * k + 2), 62 * k / 256);
            x.due(x.octet(1, 4 * k + 3), (byte) (62 * k));
            x.due(x.octet(1, 24 + 62 * k + 2), (byte) (100 + k));
        }
        x.due(x.count(4), 24 + 78 + 24 + 6 * 62);
    }

    private static void packS() {
        about("with s as great as can be (0 for the first)");
        Bench x = bench(5);
        x.putAll(0, 5, -5, 6);
        x.putAll(1, 5, -5);
        x.putAll(2, 5, -5, 6);
        x.putAll(3, 5, -5, 6, 5, 5);
        x.putAll(4, 4, -5, 6, 5, 5, 5);
        x.due(x.pack(10), 1);
        x.octetsDue(0,
            0, 0, 0, 0, 0, 1, 0, 5, 0, 2, 0, 7, 0, 3, 0, 10, 0, 4, 0, 14,
            0, 3, 5, -5, 6, 2, 0, 2, 1, 6, 3, 2, 5, 5, 0, 6, 4, -5, 6, 5, 5, 5);
        // The first of a second PACK is like the last of the one before, and yet has 0.
        Bench y = bench(2);
        y.putAll(0, 1, 2);
        y.putAll(1, 1, 2);
        y.due(y.pack(1), 2);
        y.octetsDue(1, 0, 1, 0, 0, 0, 2, 1, 2);
    }

    private static void packedThen() {
        about("All of them are IN it then");
        Bench x = bench(3);
        x.putAll(0, 1);
        x.putAll(1, 2, 2, 2);
        x.putAll(2, 1, 1);
        x.raw(0, 0);
        x.due(x.pack(10), 1);
        x.due(x.in(0), 100);
        x.due(x.in(2), 101);
        x.due(x.in(1), 102);
        x.due(x.count(2), 3);
        for (int i = 0; i < 3; i++) {
            x.due(x.put(i, 1), STATE);
        }
        x.bytesDue(0, 1);
        x.bytesDue(1, 2, 2, 2);
        x.bytesDue(2, 1, 1);
    }
}
