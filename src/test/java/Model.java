import java.util.ArrayList;
import java.util.List;

/**
 * The document written down once more, as plainly as can be and apart from the class: every CONTENT is
 * written out in full each time, and packing works on copies that are kept only when they fit.
 */
final class Model {
    static final int NONE = -1, BAD = -2, STATE = -3, FULL = -4, THROWS = Bench.THROWS;

    private static final class Thing {
        int kind;
        List<Byte> own = new ArrayList<>();
        int pack = NONE;
        int index = 0;
    }

    private static final class Row {
        int count;
        int first;
        int extended = NONE;
        List<Byte> bytes = new ArrayList<>();
    }

    private final List<Thing> things = new ArrayList<>();
    private final List<Row> rows = new ArrayList<>();
    private List<int[]> told = new ArrayList<>();

    int object(int kind) {
        if (kind != 0 && kind != 1) return BAD;
        if (things.size() == 60) return FULL;
        Thing thing = new Thing();
        thing.kind = kind;
        things.add(thing);
        return things.size() - 1;
    }

    int put(int object, byte b) {
        if (noThing(object)) return BAD;
        Thing thing = things.get(object);
        if (thing.pack != NONE) return STATE;
        if (thing.own.size() == 60) return FULL;
        thing.own.add(b);
        return thing.own.size();
    }

    int change(int object) {
        if (noThing(object)) return BAD;
        Thing thing = things.get(object);
        if (thing.pack == NONE) return STATE;
        List<Byte> bytes = bytesOf(object);
        if (bytes != null && bytes.size() > 60) return FULL;
        thing.pack = NONE;
        thing.own = bytes == null ? new ArrayList<>() : new ArrayList<>(bytes);
        return bytes == null ? NONE : bytes.size();
    }

    int pack(int most) {
        if (most < 1 || most > 10) return BAD;
        List<Integer> left = new ArrayList<>();
        for (int n = 0; n < things.size(); n++) {
            Thing thing = things.get(n);
            if (thing.kind == 0 && thing.pack == NONE && !thing.own.isEmpty()) left.add(n);
        }
        List<List<Integer>> groups = new ArrayList<>();
        while (!left.isEmpty()) {
            List<Integer> group = new ArrayList<>();
            group.add(left.remove(0));
            while (group.size() < most && !left.isEmpty()) {
                int latest = group.get(group.size() - 1);
                int best = left.get(0);
                for (int n : left) {
                    if (toWrite(n, latest) < toWrite(best, latest)) best = n;
                }
                group.add(best);
                if (written(group).bytes.size() > 600) {
                    group.remove(group.size() - 1);
                    break;
                }
                left.remove(Integer.valueOf(best));
            }
            groups.add(group);
        }
        if (rows.size() + groups.size() > 20) return FULL;
        for (List<Integer> group : groups) {
            rows.add(written(group));
            for (int i = 0; i < group.size(); i++) moveInto(group.get(i), rows.size() - 1, i);
        }
        return groups.size();
    }

    int size(int object) {
        if (noThing(object)) return BAD;
        List<Byte> bytes = bytesOf(object);
        return bytes == null ? NONE : bytes.size();
    }

    int at(int object, int i) {
        List<Byte> bytes = noThing(object) ? null : bytesOf(object);
        return bytes == null || i < 0 || i >= bytes.size() ? THROWS : bytes.get(i);
    }

    int in(int object) {
        if (noThing(object)) return BAD;
        Thing thing = things.get(object);
        return thing.pack == NONE ? NONE : thing.pack * 100 + thing.index;
    }

    int raw(int count, int first) {
        if (count < 0 || count > 99 || first < 0 || first > 600) return BAD;
        if (rows.size() == 20) return FULL;
        Row row = new Row();
        row.count = count;
        row.first = first;
        rows.add(row);
        return rows.size() - 1;
    }

    int add(int pack, byte b) {
        if (noRow(pack)) return BAD;
        List<Byte> bytes = rows.get(pack).bytes;
        if (bytes.size() == 600) return FULL;
        bytes.add(b);
        return bytes.size();
    }

    int octet(int pack, int i) {
        if (noRow(pack)) return THROWS;
        List<Byte> bytes = rows.get(pack).bytes;
        return i < 0 || i >= bytes.size() ? THROWS : bytes.get(i);
    }

    int extend(int pack, int other) {
        if (noRow(pack) || (other != NONE && noRow(other))) return BAD;
        for (int p = other; p != NONE; p = rows.get(p).extended) {
            if (p == pack) return 0;
        }
        rows.get(pack).extended = other;
        return 1;
    }

    int row(int object, int pack, int index) {
        if (noThing(object) || noRow(pack) || things.get(object).kind == 1 || index < 0 || index > 99) return BAD;
        int before = things.get(object).pack == NONE ? 0 : 1;
        moveInto(object, pack, index);
        return before;
    }

    int read(int pack) {
        if (noRow(pack)) return BAD;
        Row row = rows.get(pack);
        told = new ArrayList<>();
        List<Integer> seen = new ArrayList<>();
        for (int k = 0; k < row.count; k++) {
            int object = number(row, k, 0);
            int fault = 0;
            if (object == NONE) fault = 1;
            else if (contents(row).get(k) == null) fault = 2;
            else if (noThing(object)) fault = 3;
            else if (things.get(object).kind == 1) fault = 4;
            else if (seen.contains(object)) fault = 5;
            if (fault != 0) told.add(new int[] {fault, k});
            seen.add(object);
        }
        return row.count - told.size();
    }

    int told(int i, int what) {
        if (i == NONE) return told.size();
        return i < 0 || i >= told.size() || what < 0 || what > 1 ? NONE : told.get(i)[what];
    }

    int pair(int pack, int k, int what) {
        if (noRow(pack) || what < 0 || what > 2) return BAD;
        Row row = rows.get(pack);
        if (k < 0 || k >= row.count || number(row, k, 0) == NONE) return NONE;
        if (what < 2) return number(row, k, what);
        List<Byte> content = contents(row).get(k);
        return content == null ? NONE : content.size();
    }

    int find(int object, int pack) {
        if (noRow(pack)) return BAD;
        if (object < 0) return NONE;
        for (int p = pack; p != NONE; p = rows.get(p).extended) {
            for (int k = 0; k < rows.get(p).count; k++) {
                if (number(rows.get(p), k, 0) == object) return 100 * p + k;
            }
        }
        return NONE;
    }

    int count(int what) {
        int in = 0;
        int lost = 0;
        int octets = 0;
        for (int n = 0; n < things.size(); n++) {
            if (things.get(n).pack != NONE) in++;
            if (bytesOf(n) == null) lost++;
        }
        for (Row row : rows) octets += row.bytes.size();
        int[] answers = {things.size(), rows.size(), in, lost, octets};
        return what < 0 || what > 4 ? BAD : answers[what];
    }

    private boolean noThing(int n) {
        return n < 0 || n >= things.size();
    }

    private boolean noRow(int n) {
        return n < 0 || n >= rows.size();
    }

    private void moveInto(int object, int pack, int index) {
        Thing thing = things.get(object);
        thing.own = new ArrayList<>();
        thing.pack = pack;
        thing.index = index;
    }

    /** One of the two numbers of a PAIR; NONE if it is not THERE. */
    private static int number(Row row, int k, int which) {
        for (int i = 4 * k; i < 4 * k + 4; i++) {
            if (i >= row.first || i >= row.bytes.size()) return NONE;
        }
        return (row.bytes.get(4 * k + 2 * which) & 255) * 256 + (row.bytes.get(4 * k + 2 * which + 1) & 255);
    }

    /** The CONTENT of every PAIR; null for one that has none. */
    private static List<List<Byte>> contents(Row row) {
        List<List<Byte>> all = new ArrayList<>();
        List<Byte> before = new ArrayList<>();
        for (int k = 0; k < row.count; k++) {
            List<Byte> content = content(row, k, before);
            all.add(content);
            before = content == null ? new ArrayList<>() : content;
        }
        return all;
    }

    private static List<Byte> content(Row row, int k, List<Byte> before) {
        if (number(row, k, 0) == NONE) return null;
        int start = row.first + number(row, k, 1);
        int end = row.bytes.size();
        if (start + 1 >= end) return null;
        int alike = row.bytes.get(start) & 255;
        int more = row.bytes.get(start + 1) & 255;
        if (alike > before.size() || start + 2 + more > end) return null;
        List<Byte> content = new ArrayList<>(before.subList(0, alike));
        content.addAll(row.bytes.subList(start + 2, start + 2 + more));
        return content;
    }

    /** The bytes of an object; null when it is LOST. */
    private List<Byte> bytesOf(int object) {
        Thing thing = things.get(object);
        if (thing.pack == NONE) return thing.own;
        Row row = rows.get(thing.pack);
        if (thing.index >= row.count || number(row, thing.index, 0) != object) return null;
        return contents(row).get(thing.index);
    }

    private int alike(int object, int before) {
        List<Byte> a = things.get(object).own;
        List<Byte> b = things.get(before).own;
        int n = 0;
        while (n < a.size() && n < b.size() && a.get(n).equals(b.get(n))) n++;
        return n;
    }

    private int toWrite(int object, int before) {
        return things.get(object).own.size() - alike(object, before);
    }

    private Row written(List<Integer> group) {
        Row row = new Row();
        row.count = group.size();
        row.first = 4 * group.size();
        List<Byte> behind = new ArrayList<>();
        for (int i = 0; i < group.size(); i++) {
            int object = group.get(i);
            List<Byte> own = things.get(object).own;
            int alike = i == 0 ? 0 : alike(object, group.get(i - 1));
            row.bytes.addAll(List.of((byte) 0, (byte) object, (byte) (behind.size() / 256), (byte) behind.size()));
            behind.add((byte) alike);
            behind.add((byte) (own.size() - alike));
            behind.addAll(own.subList(alike, own.size()));
        }
        row.bytes.addAll(behind);
        return row;
    }
}
