/** Objects packed in rows of bytes by likeness; the promises are numbered as in the document. */
public final class ObjectStreams {
    public static final int NONE = -1, BAD = -2, STATE = -3, FULL = -4;

    private static final int MOST_OBJECTS = 60, MOST_OWN_BYTES = 60;
    private static final int MOST_PACKS = 20, MOST_OCTETS = 600;
    private static final int MOST_PAIRS = 99, MOST_INDEX = 99, MOST_IN_A_PACK = 10;
    private static final int VALUE = 0, STREAM = 1;
    private static final int PAIR_OCTETS = 4, CONTENT_HEAD = 2;
    private static final int OBJECT = 0, PLACE = 1;

    private static final int TRUE_PAIR = 0, NOT_THERE = 1, NO_CONTENT = 2;
    private static final int NO_OBJECT = 3, OF_STREAM = 4, OBJECT_AGAIN = 5;

    private final Item[] items = new Item[MOST_OBJECTS];
    private int itemCount = 0;

    private final Pack[] packs = new Pack[MOST_PACKS];
    private int packCount = 0;

    private final int[] toldFaults = new int[MOST_PAIRS];
    private final int[] toldPairs = new int[MOST_PAIRS];
    private int toldCount = 0;

    // A plan for pack(): it is made before anything is packed, as FULL must leave all as it was.
    private final int[] plannedItems = new int[MOST_OBJECTS];
    private int plannedCount = 0;
    private final int[] planEnds = new int[MOST_PACKS];

    /** Promise 1. */
    public ObjectStreams() {
    }

    /** Promise 2. */
    public int object(int kind) {
        if (kind != VALUE && kind != STREAM) {
            return BAD;
        }
        if (itemCount >= MOST_OBJECTS) {
            return FULL;
        }
        int number = itemCount;
        items[number] = new Item(number, kind);
        itemCount++;
        return number;
    }

    /** Promise 3. */
    public int put(int object, byte b) {
        Item item = itemOf(object);
        if (item == null) {
            return BAD;
        }
        if (item.home != null) {
            return STATE;
        }
        return item.append(b) ? item.ownLength : FULL;
    }

    /** Promise 4. */
    public int change(int object) {
        Item item = itemOf(object);
        if (item == null) {
            return BAD;
        }
        if (item.home == null) {
            return STATE;
        }
        int length = item.length();
        if (length > MOST_OWN_BYTES) {
            return FULL;
        }
        item.moveOut(length);
        return length;
    }

    /** Promise 5. */
    public int pack(int most) {
        if (most < 1 || most > MOST_IN_A_PACK) {
            return BAD;
        }
        int made = plan(most);
        if (made == FULL) {
            return FULL;
        }
        int from = 0;
        for (int p = 0; p < made && p < MOST_PACKS; p++) {
            writePack(from, planEnds[p]);
            from = planEnds[p];
        }
        return made;
    }

    /** Promise 6. */
    public int size(int object) {
        Item item = itemOf(object);
        return item == null ? BAD : item.length();
    }

    /** Promise 7. */
    public byte at(int object, int i) throws ArrayIndexOutOfBoundsException {
        Item item = itemOf(object);
        if (item == null || i < 0 || i >= item.length()) {
            throw new ArrayIndexOutOfBoundsException("no such byte of an object");
        }
        return item.byteAt(i);
    }

    /** Promise 8. */
    public int in(int object) {
        Item item = itemOf(object);
        if (item == null) {
            return BAD;
        }
        return item.home == null ? NONE : 100 * item.home.number + item.index;
    }

    /** Promise 9. */
    public int raw(int count, int first) {
        if (count < 0 || count > MOST_PAIRS || first < 0 || first > MOST_OCTETS) {
            return BAD;
        }
        Pack made = newPack(count, first);
        return made == null ? FULL : made.number;
    }

    /** Promise 10. */
    public int add(int pack, byte b) {
        Pack row = packOf(pack);
        if (row == null) {
            return BAD;
        }
        return row.append(b) ? row.length : FULL;
    }

    /** Promise 11. */
    public byte octet(int pack, int i) throws ArrayIndexOutOfBoundsException {
        Pack row = packOf(pack);
        if (row == null || !row.holds(i)) {
            throw new ArrayIndexOutOfBoundsException("no such byte of a pack");
        }
        return row.byteAt(i);
    }

    /** Promise 12. */
    public int extend(int pack, int other) {
        Pack row = packOf(pack);
        Pack base = packOf(other);
        if (row == null || (base == null && other != NONE)) {
            return BAD;
        }
        if (leadsTo(base, row.number)) {
            return 0;
        }
        row.base = base;
        return 1;
    }

    /** Promise 13. */
    public int row(int object, int pack, int index) {
        Item item = itemOf(object);
        Pack home = packOf(pack);
        if (item == null || home == null || item.kind == STREAM || index < 0 || index > MOST_INDEX) {
            return BAD;
        }
        int before = item.home == null ? 0 : 1;
        item.moveInto(home, index);
        return before;
    }

    /** Promise 14. */
    public int read(int pack) {
        Pack row = packOf(pack);
        if (row == null) {
            return BAD;
        }
        toldCount = 0;
        int good = 0;
        int before = NONE;
        for (int k = 0; k < row.pairs; k++) {
            int length = row.lengthBehind(k, before);
            int fault = faultOf(row, k, length);
            if (fault == TRUE_PAIR) {
                good++;
            } else {
                tell(fault, k);
            }
            before = length;
        }
        return good;
    }

    /** Promise 15. */
    public int told(int i, int what) {
        if (i == NONE) {
            return toldCount;
        }
        if (i < 0 || i >= toldCount || what < 0 || what > 1) {
            return NONE;
        }
        return what == 0 ? toldFaults[i] : toldPairs[i];
    }

    /** Promise 16. */
    public int pair(int pack, int k, int what) {
        Pack row = packOf(pack);
        if (row == null || what < 0 || what > 2) {
            return BAD;
        }
        return what == 2 ? row.contentLength(k) : row.numberOf(k, what);
    }

    /** Promise 17. */
    public int find(int object, int pack) {
        Pack row = packOf(pack);
        if (row == null) {
            return BAD;
        }
        for (int step = 0; step < MOST_PACKS && row != null; step++) {
            int k = row.firstPairOf(object);
            if (k != NONE) {
                return 100 * row.number + k;
            }
            row = row.base;
        }
        return NONE;
    }

    /** Promise 18. */
    public int count(int what) {
        switch (what) {
            case 0:
                return itemCount;
            case 1:
                return packCount;
            case 2:
                return packedItems();
            case 3:
                return lostItems();
            case 4:
                return allOctets();
            default:
                return BAD;
        }
    }

    private Item itemOf(int number) {
        return number >= 0 && number < itemCount && number < MOST_OBJECTS ? items[number] : null;
    }

    private Pack packOf(int number) {
        return number >= 0 && number < packCount && number < MOST_PACKS ? packs[number] : null;
    }

    private Pack newPack(int pairs, int first) {
        if (packCount >= MOST_PACKS) {
            return null;
        }
        Pack made = new Pack(packCount, pairs, first);
        packs[packCount] = made;
        packCount++;
        return made;
    }

    private static boolean leadsTo(Pack from, int number) {
        Pack row = from;
        for (int step = 0; step < MOST_PACKS && row != null; step++) {
            if (row.number == number) {
                return true;
            }
            row = row.base;
        }
        return false;
    }

    private int faultOf(Pack row, int k, int contentLength) {
        if (!row.isThere(k)) {
            return NOT_THERE;
        }
        if (contentLength == NONE) {
            return NO_CONTENT;
        }
        int object = row.numberOf(k, OBJECT);
        Item item = itemOf(object);
        if (item == null) {
            return NO_OBJECT;
        }
        if (item.kind == STREAM) {
            return OF_STREAM;
        }
        return row.firstPairOf(object) < k ? OBJECT_AGAIN : TRUE_PAIR;
    }

    private void tell(int fault, int k) {
        if (toldCount < MOST_PAIRS) {
            toldFaults[toldCount] = fault;
            toldPairs[toldCount] = k;
            toldCount++;
        }
    }

    private int packedItems() {
        int sum = 0;
        for (int n = 0; n < itemCount; n++) {
            Item item = itemOf(n);
            if (item != null && item.home != null) {
                sum++;
            }
        }
        return sum;
    }

    private int lostItems() {
        int sum = 0;
        for (int n = 0; n < itemCount; n++) {
            Item item = itemOf(n);
            if (item != null && item.length() == NONE) {
                sum++;
            }
        }
        return sum;
    }

    private int allOctets() {
        int sum = 0;
        for (int p = 0; p < packCount; p++) {
            Pack row = packOf(p);
            if (row != null) {
                sum += row.length;
            }
        }
        return sum;
    }

    /** How many packs are to be made, or FULL as soon as there is no room for one of them. */
    private int plan(int most) {
        plannedCount = 0;
        for (int n = 0; n < itemCount; n++) {
            Item item = itemOf(n);
            if (item != null) {
                item.waiting = item.kind == VALUE && item.home == null && item.ownLength > 0;
            }
        }
        int made = 0;
        for (int turn = 0; turn < MOST_OBJECTS; turn++) {
            Item least = nextBehind(null);
            if (least == null) {
                break;
            }
            if (packCount + made >= MOST_PACKS) {
                return FULL;
            }
            planPack(least, most);
            planEnds[made] = plannedCount;
            made++;
        }
        return made;
    }

    private void planPack(Item least, int most) {
        Item latest = null;
        Item next = least;
        int octets = 0;
        for (int n = 0; n < most && next != null && plannedCount < MOST_OBJECTS; n++) {
            octets += PAIR_OCTETS + CONTENT_HEAD + next.unlike(latest);
            if (octets > MOST_OCTETS) {
                return;
            }
            plannedItems[plannedCount] = next.number;
            plannedCount++;
            next.waiting = false;
            latest = next;
            next = nextBehind(latest);
        }
    }

    /** The waiting item with the fewest bytes to write behind the latest one; without one, the least. */
    private Item nextBehind(Item latest) {
        Item best = null;
        int fewest = 0;
        for (int n = 0; n < itemCount; n++) {
            Item item = itemOf(n);
            if (item == null || !item.waiting) {
                continue;
            }
            if (latest == null) {
                return item;
            }
            int bytes = item.unlike(latest);
            if (best == null || bytes < fewest) {
                best = item;
                fewest = bytes;
            }
        }
        return best;
    }

    private Item planned(int i) {
        return i >= 0 && i < plannedCount && i < MOST_OBJECTS ? itemOf(plannedItems[i]) : null;
    }

    private void writePack(int from, int to) {
        Pack made = newPack(to - from, PAIR_OCTETS * (to - from));
        if (made == null) {
            return;
        }
        writePairs(made, from, to);
        writeContents(made, from, to);
        // Only now, as the contents are told by the own bytes of the item before.
        for (int i = from; i < to; i++) {
            Item item = planned(i);
            if (item != null) {
                item.moveInto(made, i - from);
            }
        }
    }

    private void writePairs(Pack made, int from, int to) {
        Item before = null;
        int place = 0;
        for (int i = from; i < to; i++) {
            Item item = planned(i);
            if (item != null) {
                made.appendNumber(item.number);
                made.appendNumber(place);
                place += CONTENT_HEAD + item.unlike(before);
                before = item;
            }
        }
    }

    private void writeContents(Pack made, int from, int to) {
        Item before = null;
        for (int i = from; i < to; i++) {
            Item item = planned(i);
            if (item != null) {
                made.appendContent(item, before);
                before = item;
            }
        }
    }

    /** An object of the document; home is null while it is OWN. */
    private static final class Item {
        final int number;
        final int kind;
        final byte[] own = new byte[MOST_OWN_BYTES];
        int ownLength = 0;
        Pack home = null;
        int index = 0;
        boolean waiting = false;

        Item(int number, int kind) {
            this.number = number;
            this.kind = kind;
        }

        boolean append(byte b) {
            if (ownLength >= MOST_OWN_BYTES) {
                return false;
            }
            own[ownLength] = b;
            ownLength++;
            return true;
        }

        /** How many bytes it has; NONE when it is LOST. */
        int length() {
            if (home == null) {
                return ownLength;
            }
            return home.numberOf(index, OBJECT) == number ? home.contentLength(index) : NONE;
        }

        /** Byte i; i is below length(). */
        byte byteAt(int i) {
            if (home != null) {
                return home.contentByte(index, i);
            }
            return i >= 0 && i < ownLength ? own[i] : 0;
        }

        void moveInto(Pack pack, int place) {
            home = pack;
            index = place;
            ownLength = 0;
        }

        /** Own again, with as many bytes of its CONTENT; moveInto() left none of its own. */
        void moveOut(int length) {
            for (int i = 0; i < length && i < MOST_OWN_BYTES; i++) {
                append(byteAt(i));
            }
            home = null;
        }

        /** How many own bytes from the beginning on are those of the one before. */
        int alike(Item before) {
            if (before == null) {
                return 0;
            }
            int most = Math.min(ownLength, before.ownLength);
            for (int i = 0; i < most; i++) {
                if (own[i] != before.own[i]) {
                    return i;
                }
            }
            return most;
        }

        int unlike(Item before) {
            return ownLength - alike(before);
        }
    }

    /** A PACK of the document; base is the one that it EXTENDS, or null. */
    private static final class Pack {
        final int number;
        final int pairs;
        final int first;
        final byte[] octets = new byte[MOST_OCTETS];
        int length = 0;
        Pack base = null;

        Pack(int number, int pairs, int first) {
            this.number = number;
            this.pairs = pairs;
            this.first = first;
        }

        boolean append(byte b) {
            if (length >= MOST_OCTETS) {
                return false;
            }
            octets[length] = b;
            length++;
            return true;
        }

        void appendNumber(int value) {
            append((byte) (value >> 8));
            append((byte) value);
        }

        void appendContent(Item item, Item before) {
            int alike = item.alike(before);
            append((byte) alike);
            append((byte) (item.ownLength - alike));
            for (int i = alike; i < item.ownLength; i++) {
                append(item.own[i]);
            }
        }

        boolean holds(int i) {
            return i >= 0 && i < length && i < MOST_OCTETS;
        }

        byte byteAt(int i) {
            return holds(i) ? octets[i] : 0;
        }

        boolean isThere(int k) {
            if (k < 0 || k >= pairs) {
                return false;
            }
            int end = PAIR_OCTETS * k + PAIR_OCTETS;
            return end <= length && end <= first;
        }

        /** The number OBJECT or PLACE of PAIR k; NONE when that is not THERE. */
        int numberOf(int k, int which) {
            if (!isThere(k) || which < OBJECT || which > PLACE) {
                return NONE;
            }
            int i = PAIR_OCTETS * k + 2 * which;
            return (octets[i] & 255) << 8 | octets[i + 1] & 255;
        }

        int firstPairOf(int object) {
            for (int k = 0; k < pairs; k++) {
                if (isThere(k) && numberOf(k, OBJECT) == object) {
                    return k;
                }
            }
            return NONE;
        }

        /** How long the CONTENT of PAIR k is, or NONE; before is that of the PAIR before. */
        int lengthBehind(int k, int before) {
            if (!isThere(k)) {
                return NONE;
            }
            int start = first + numberOf(k, PLACE);
            if (!holds(start) || !holds(start + 1)) {
                return NONE;
            }
            int alike = byteAt(start) & 255;
            int more = byteAt(start + 1) & 255;
            if (alike > Math.max(before, 0) || start + CONTENT_HEAD + more > length) {
                return NONE;
            }
            return alike + more;
        }

        int contentLength(int k) {
            if (!isThere(k)) {
                return NONE;
            }
            int result = NONE;
            for (int j = 0; j <= k && j < pairs; j++) {
                result = lengthBehind(j, result);
            }
            return result;
        }

        /** Byte i of the CONTENT of PAIR k; i is below contentLength(k). */
        byte contentByte(int k, int i) {
            for (int j = k; j >= 0; j--) {
                int start = first + numberOf(j, PLACE);
                int alike = byteAt(start) & 255;
                if (i >= alike) {
                    return byteAt(start + CONTENT_HEAD + i - alike);
                }
            }
            return 0;
        }
    }
}
