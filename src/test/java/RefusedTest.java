import java.util.function.Supplier;
import java.util.function.ToIntFunction;

/**
 * A refused call, or one that only asks, changes nothing: of two objects made alike one gets the call, and
 * both must look and go on the same.
 */
public final class RefusedTest {
    private static final int NONE = Bench.NONE, BAD = Bench.BAD, STATE = Bench.STATE, FULL = Bench.FULL;
    private static final int THROWS = Bench.THROWS;

    private static final Check CHECK = new Check("RefusedTest");

    public static void main(String[] args) {
        objects();
        packs();
        calls();
        asking();
        full();
        CHECK.end();
    }

    /** Value 0 is empty, 1 own, 2 and 3 packed, 4 lost, 5 a stream; pack 2 extends 1, which extends 0. */
    private static Bench some() {
        Bench x = new Bench(CHECK, 5);
        x.object(1);
        x.putAll(2, 1, 2);
        x.putAll(3, 1, 3);
        x.pack(2);
        x.putAll(1, 7, 8);
        x.putAll(5, 9);
        x.raw(3, 8);
        x.addAll(1, 0, 4, 0, 0, 0, 3, 0, 1, 0, 0);
        x.raw(1, 4);
        x.addAll(2, 0, 6, 0, 0);
        x.extend(1, 0);
        x.extend(2, 1);
        x.row(4, 1, 1);
        x.due(x.read(1), 1);
        return x;
    }

    /** All objects and packs that there can be; 0 has 60 bytes, 1 has 61 in pack 0. */
    private static Bench crowded() {
        Bench x = new Bench(CHECK, 60);
        x.putAll(0, new int[60]);
        x.raw(1, 4);
        x.addAll(0, 0, 1, 0, 0, 0, 61);
        x.addAll(0, new int[61]);
        x.row(1, 0, 0);
        for (int p = 1; p < 20; p++) {
            x.raw(1, 4);
        }
        return x;
    }

    /** Pack 1 has 600 bytes. */
    private static Bench filled() {
        Bench x = Bench.broad(CHECK, 10, 54);
        x.pack(10);
        return x;
    }

    private static Bench oneByteEach(int values) {
        Bench x = new Bench(CHECK, values);
        for (int i = 0; i < values; i++) {
            x.put(i, i);
        }
        return x;
    }

    private static void same(Supplier<Bench> made, String name, ToIntFunction<Bench> call, int want) {
        CHECK.about(name);
        Bench with = made.get();
        with.due(call.applyAsInt(with), want);
        Bench without = made.get();
        String a = sight(with);
        String b = sight(without);
        CHECK.due("looks as before", a.equals(b) ? 1 : 0, 1);
    }

    private static String sight(Bench x) {
        StringBuilder text = new StringBuilder();
        told(x, text);
        look(x, text);
        text.append("put ").append(x.put(0, 5)).append(' ').append(x.put(1, 6));
        text.append("pack ").append(x.pack(10));
        look(x, text);
        text.append("next ").append(x.object(0)).append(' ').append(x.raw(1, 4));
        return text.toString();
    }

    private static void told(Bench x, StringBuilder text) {
        for (int i = -1; i < 4; i++) {
            text.append(x.told(i, 0)).append(' ').append(x.told(i, 1)).append('\n');
        }
    }

    /** Some bytes of each object and pack, as there are but 512 calls. */
    private static void look(Bench x, StringBuilder text) {
        for (int what = 0; what < 5; what++) {
            text.append(x.count(what)).append(' ');
        }
        for (int n : new int[] {0, 1, 2, 3, 4, 5, 6, 9, 20, 59, 60}) {
            text.append('\n').append(x.size(n)).append(' ').append(x.in(n)).append(' ').append(x.at(n, 0));
        }
        for (int p : new int[] {0, 1, 2, 3, 19, 20}) {
            text.append('\n').append(x.pair(p, 0, 2)).append(' ').append(x.pair(p, 1, 0)).append(' ');
            text.append(x.find(2, p)).append(' ').append(x.find(3, p)).append(' ').append(x.find(4, p));
            for (int i : new int[] {0, 7, 8, 10, 17, 599}) {
                text.append(' ').append(x.octet(p, i));
            }
        }
        text.append('\n');
    }

    private static void some(String name, ToIntFunction<Bench> call, int want) {
        same(RefusedTest::some, name, call, want);
    }

    private static void objects() {
        some("object: BAD", x -> x.object(2), BAD);
        some("put: BAD", x -> x.put(6, 1), BAD);
        some("put: BAD below 0", x -> x.put(NONE, 1), BAD);
        some("put: STATE", x -> x.put(3, 1), STATE);
        some("put: STATE of a LOST one", x -> x.put(4, 1), STATE);
        some("change: BAD", x -> x.change(6), BAD);
        some("change: STATE", x -> x.change(1), STATE);
        some("change: STATE of an empty one", x -> x.change(0), STATE);
        some("change: STATE of a STREAM", x -> x.change(5), STATE);
        some("row: BAD of no object", x -> x.row(6, 0, 0), BAD);
        some("row: BAD of no PACK", x -> x.row(1, 3, 0), BAD);
        some("row: BAD of a STREAM", x -> x.row(5, 0, 0), BAD);
        some("row: BAD below 0", x -> x.row(1, 0, -1), BAD);
        some("row: BAD from 100 on", x -> x.row(3, 0, 100), BAD);
    }

    private static void packs() {
        some("pack: BAD below 1", x -> x.pack(0), BAD);
        some("pack: BAD over 10", x -> x.pack(11), BAD);
        some("raw: BAD count", x -> x.raw(100, 0), BAD);
        some("raw: BAD first", x -> x.raw(0, 601), BAD);
        some("add: BAD", x -> x.add(3, 1), BAD);
        some("add: BAD below 0", x -> x.add(NONE, 1), BAD);
        some("extend: 0 by itself", x -> x.extend(2, 2), 0);
        some("extend: 0 by one", x -> x.extend(1, 2), 0);
        some("extend: 0 by two", x -> x.extend(0, 2), 0);
        some("extend: BAD of no PACK", x -> x.extend(3, 0), BAD);
        some("extend: BAD to no PACK", x -> x.extend(2, 3), BAD);
        some("extend: BAD below NONE", x -> x.extend(2, -2), BAD);
        some("extend: the same again", x -> x.extend(2, 1), 1);
        some("read: BAD", x -> x.read(3), BAD);
        some("read: BAD below 0", x -> x.read(NONE), BAD);
        some("read: the same again", x -> x.read(1), 1);
    }

    private static void calls() {
        some("change, and row back", x -> x.change(3) + x.row(3, 0, 1), 2);
        some("row: to where it is", x -> x.row(3, 0, 1), 1);
        same(() -> new Bench(CHECK), "pack: of a new object", x -> x.pack(10), 0);
        same(() -> new Bench(CHECK, 3), "pack: of empty ones", x -> x.pack(1), 0);
    }

    private static void asking() {
        some("size", x -> x.size(3), 2);
        some("size: BAD", x -> x.size(6), BAD);
        some("size: NONE", x -> x.size(4), NONE);
        some("at", x -> x.at(3, 1), 3);
        some("at: throws of no object", x -> x.at(6, 0), THROWS);
        some("at: throws of a LOST one", x -> x.at(4, 0), THROWS);
        some("at: throws of no byte", x -> x.at(1, 2), THROWS);
        some("in", x -> x.in(3), 1);
        some("in: BAD", x -> x.in(6), BAD);
        some("octet", x -> x.octet(1, 1), 4);
        some("octet: throws of no PACK", x -> x.octet(3, 0), THROWS);
        some("octet: throws of no byte", x -> x.octet(2, 4), THROWS);
        some("told: NONE", x -> x.told(9, 0), NONE);
        some("pair", x -> x.pair(0, 1, 2), 2);
        some("pair: BAD", x -> x.pair(0, 0, 3), BAD);
        some("pair: NONE", x -> x.pair(1, 2, 0), NONE);
        some("find", x -> x.find(2, 2), 0);
        some("find: BAD", x -> x.find(2, 3), BAD);
        some("find: NONE", x -> x.find(1, 2), NONE);
        some("count", x -> x.count(3), 1);
        some("count: BAD", x -> x.count(5), BAD);
    }

    private static void full() {
        same(RefusedTest::crowded, "object: FULL", x -> x.object(0), FULL);
        same(RefusedTest::crowded, "put: FULL", x -> x.put(0, 1), FULL);
        same(RefusedTest::crowded, "change: FULL", x -> x.change(1), FULL);
        same(RefusedTest::crowded, "raw: FULL", x -> x.raw(1, 4), FULL);
        same(RefusedTest::crowded, "pack: FULL with all there", x -> x.pack(10), FULL);
        same(RefusedTest::filled, "add: FULL", x -> x.add(1, 1), FULL);
        same(() -> oneByteEach(21), "pack: FULL with none there", x -> x.pack(1), FULL);
        same(() -> oneByteEach(60), "pack: FULL by far", x -> x.pack(2), FULL);
    }
}
