import java.util.Arrays;

/** Packs lists of fields into blocks, and unpacks them, against a table that each side keeps. */
public final class FieldPacker {
    public static final int NONE = -1;
    public static final int FULL = -2;

    private static final int MOST_TEXT = 200;
    private static final int MOST_FIXED = 20;
    private static final int MOST_FIELDS = 60;
    private static final int MOST_BLOCK = 6000;
    private static final int MOST_LIMIT = 4096;
    private static final int FIRST_LIMIT = 256;
    private static final int ENTRY_COST = 32;
    private static final int MOST_NUMBER = 100000;
    private static final int MOST_NUMBER_BYTES = 4;

    /** The bits in front of each part of a block, as the number that its first byte has at least. */
    private static final int WHOLE = 0x80;
    private static final int KEPT = 0x40;
    private static final int LIMIT = 0x20;
    private static final int SECRET = 0x10;
    private static final int LOOSE = 0x00;

    private static final int PLAIN = 0x00;
    private static final int TIGHT = 0x80;
    private static final String SIGNS = "0123456789aceilnorstdhmpu-./:=,";
    private static final int SIGN_BITS = 5;
    private static final int ESCAPE = 31;
    private static final int ESCAPED_BITS = 13;

    private static final int BYTES_END = 1;
    private static final int NO_SUCH_PLACE = 2;
    private static final int WRONG_LIMIT = 3;
    private static final int WRONG_NUMBER = 4;
    private static final int LONG_TEXT = 5;
    private static final int WRONG_END = 6;
    private static final int MANY_FIELDS = 7;

    private final Row typed = new Row(MOST_TEXT);
    private final Row loaded = new Row(MOST_BLOCK);
    private final Row block = new Row(MOST_BLOCK);
    private final Fields fixedEntries = new Fields(MOST_FIXED);
    private final Fields list = new Fields(MOST_FIELDS);
    private final Table packing = new Table(fixedEntries);
    private final Table unpacking = new Table(fixedEntries);
    private final Packer packer = new Packer(fixedEntries);
    private final Unpacker unpacker = new Unpacker(fixedEntries, loaded);
    private int[] currentName = new int[0];
    private boolean begun = false;
    private int toldLimit = FIRST_LIMIT;
    private int leastLimit = FIRST_LIMIT;
    private int faultPlace = NONE;
    private int blocksPacked = 0;
    private int blocksUnpacked = 0;

    public FieldPacker() {
    }

    public int type(long bytes, int n) {
        return typed.addLowest(bytes, n);
    }

    public int name() {
        currentName = typed.takeAll();
        return currentName.length;
    }

    public int fixed() {
        if (begun || fixedEntries.isFull()) {
            return NONE;
        }
        fixedEntries.add(new Field(currentName, typed.takeAll(), false));
        return fixedEntries.size;
    }

    public int field(int secret) {
        if (secret < 0 || secret > 1 || list.isFull()) {
            return NONE;
        }
        list.add(new Field(currentName, typed.takeAll(), secret == 1));
        return list.size;
    }

    public int drop() {
        int were = list.size;
        list.clear();
        return were;
    }

    public int limit(int n) {
        if (n < 0 || n > MOST_LIMIT) {
            return 0;
        }
        packing.setLimit(n);
        leastLimit = Math.min(leastLimit, n);
        return 1;
    }

    public int pack() {
        begun = true;
        packer.begin(packing);
        packer.writeLimits(leastLimit, toldLimit);
        for (int i = 0; i < list.size; i++) {
            packer.writeField(list.at(i));
        }
        if (packer.out.tooLong) {
            return FULL;
        }
        block.become(packer.out);
        packing.become(packer.table);
        toldLimit = packing.limit;
        leastLimit = packing.limit;
        blocksPacked++;
        return block.size;
    }

    public int packed(int k) {
        return block.at(k);
    }

    public int load(long bytes, int n) {
        return loaded.addLowest(bytes, n);
    }

    public int loop() {
        loaded.become(block);
        return loaded.size;
    }

    public int unpack() {
        begun = true;
        int fault = unpacker.readBlock(unpacking);
        loaded.clear();
        if (fault != 0) {
            faultPlace = unpacker.fields.size;
            return fault;
        }
        faultPlace = NONE;
        list.become(unpacker.fields);
        unpacking.become(unpacker.table);
        blocksUnpacked++;
        return 0;
    }

    public int place() {
        return faultPlace;
    }

    public int about(int i, int what) {
        Field field = list.at(i);
        if (field == null) {
            return NONE;
        }
        switch (what) {
            case 0:
                return field.name.length;
            case 1:
                return field.value.length;
            case 2:
                return field.secret ? 1 : 0;
            default:
                return NONE;
        }
    }

    public int byteOf(int i, int part, int k) {
        return byteIn(list.at(i), part, k);
    }

    public int table(int side, int what) {
        Table table = tableOf(side);
        if (table == null) {
            return NONE;
        }
        switch (what) {
            case 0:
                return table.size;
            case 1:
                return table.total;
            case 2:
                return table.limit;
            default:
                return NONE;
        }
    }

    public int entry(int side, int i) {
        Field entry = entryOf(side, i);
        return entry == null ? NONE : entry.cost();
    }

    public int entryByte(int side, int i, int part, int k) {
        return byteIn(entryOf(side, i), part, k);
    }

    public int count(int what) {
        switch (what) {
            case 0:
                return list.size;
            case 1:
                return fixedEntries.size;
            case 2:
                return typed.size;
            case 3:
                return loaded.size;
            case 4:
                return block.size;
            case 5:
                return blocksPacked;
            case 6:
                return blocksUnpacked;
            default:
                return NONE;
        }
    }

    public int check() {
        return packing.isSound() && unpacking.isSound() ? 1 : 0;
    }

    private Table tableOf(int side) {
        if (side == 0) {
            return packing;
        }
        return side == 1 ? unpacking : null;
    }

    private Field entryOf(int side, int i) {
        Table table = tableOf(side);
        return table == null ? null : table.at(i);
    }

    private static int byteIn(Field field, int part, int k) {
        if (field == null || part < 0 || part > 1) {
            return NONE;
        }
        int[] text = part == 0 ? field.name : field.value;
        return k < 0 || k >= text.length ? NONE : text[k];
    }

    private static boolean isSameText(int[] one, int[] other) {
        if (one.length != other.length) {
            return false;
        }
        for (int i = 0; i < one.length; i++) {
            if (one[i] != other[i]) {
                return false;
            }
        }
        return true;
    }

    /** Never changed once it is made, so that lists and tables can share it and no call need copy it. */
    private static final class Field {
        final int[] name;
        final int[] value;
        final boolean secret;

        Field(int[] name, int[] value, boolean secret) {
            this.name = name;
            this.value = value;
            this.secret = secret;
        }

        int cost() {
            return name.length + value.length + ENTRY_COST;
        }

        boolean isLike(int[] otherName, int[] otherValue) {
            return isSameText(name, otherName) && isSameText(value, otherValue);
        }
    }

    /** Bytes up to a bound; the room for them grows only as they come, as most objects need little. */
    private static final class Row {
        final int most;
        int[] cells = new int[32];
        int size = 0;
        boolean tooLong = false;

        Row(int most) {
            this.most = most;
        }

        void clear() {
            size = 0;
            tooLong = false;
        }

        void add(int value) {
            if (size >= most) {
                tooLong = true;
                return;
            }
            if (size >= cells.length) {
                cells = Arrays.copyOf(cells, Math.min(most, 2 * cells.length));
            }
            cells[size] = value;
            size++;
        }

        int addLowest(long bytes, int n) {
            if (n < 1 || n > 8 || size + n > most) {
                return NONE;
            }
            for (int i = n - 1; i >= 0; i--) {
                add((int) (bytes >>> (8 * i)) & 255);
            }
            return size;
        }

        int at(int k) {
            return k < 0 || k >= size ? NONE : cells[k];
        }

        int[] takeAll() {
            int[] taken = Arrays.copyOf(cells, size);
            clear();
            return taken;
        }

        void become(Row other) {
            clear();
            for (int i = 0; i < other.size; i++) {
                add(other.cells[i]);
            }
        }
    }

    private static final class Fields {
        final Field[] cells;
        int size = 0;

        Fields(int most) {
            cells = new Field[most];
        }

        boolean isFull() {
            return size >= cells.length;
        }

        void clear() {
            size = 0;
        }

        void add(Field field) {
            if (size < cells.length) {
                cells[size] = field;
                size++;
            }
        }

        Field at(int i) {
            return i < 0 || i >= size ? null : cells[i];
        }

        void become(Fields other) {
            clear();
            for (int i = 0; i < other.size; i++) {
                add(other.cells[i]);
            }
        }
    }

    /** The entries of one side, the newest first, with the fixed ones in front of them. */
    private static final class Table {
        final Fields fixed;
        final Field[] entries = new Field[MOST_LIMIT / ENTRY_COST];
        int size = 0;
        int total = 0;
        int limit = FIRST_LIMIT;

        Table(Fields fixed) {
            this.fixed = fixed;
        }

        void become(Table other) {
            for (int i = 0; i < other.size; i++) {
                entries[i] = other.entries[i];
            }
            size = other.size;
            total = other.total;
            limit = other.limit;
        }

        void setLimit(int n) {
            limit = n;
            makeRoom(0);
        }

        void put(Field field) {
            int cost = field.cost();
            makeRoom(cost);
            if (cost > limit || size >= entries.length) {
                return;
            }
            for (int i = size; i > 0; i--) {
                entries[i] = entries[i - 1];
            }
            entries[0] = field;
            size++;
            total += cost;
        }

        void makeRoom(int cost) {
            for (; size > 0 && total + cost > limit; size--) {
                total -= costAt(size - 1);
            }
        }

        Field at(int i) {
            return i < 0 || i >= size ? null : entries[i];
        }

        int costAt(int i) {
            Field entry = at(i);
            return entry == null ? 0 : entry.cost();
        }

        Field atPlace(int place) {
            return place <= fixed.size ? fixed.at(place - 1) : at(place - 1 - fixed.size);
        }

        int placeOfName(int[] name) {
            for (int place = 1; place <= fixed.size + size; place++) {
                Field entry = atPlace(place);
                if (entry != null && isSameText(entry.name, name)) {
                    return place;
                }
            }
            return 0;
        }

        int placeOfWhole(Field field) {
            for (int place = 1; place <= fixed.size + size; place++) {
                Field entry = atPlace(place);
                if (entry != null && entry.isLike(field.name, field.value)) {
                    return place;
                }
            }
            return 0;
        }

        boolean isSound() {
            int sum = 0;
            for (int i = 0; i < size; i++) {
                sum += costAt(i);
            }
            return sum == total && total <= limit;
        }
    }

    /** Writes a block against a copy of the table, so that a block that is too long leaves no trace. */
    private static final class Packer {
        final Row out = new Row(MOST_BLOCK);
        final Table table;

        Packer(Fields fixed) {
            table = new Table(fixed);
        }

        void begin(Table from) {
            out.clear();
            table.become(from);
        }

        void writeLimits(int least, int told) {
            int now = table.limit;
            boolean wasLess = least < now && least < told;
            if (wasLess) {
                writeNumber(LIMIT, 5, least);
            }
            if (wasLess || now != told) {
                writeNumber(LIMIT, 5, now);
            }
        }

        void writeField(Field field) {
            if (field == null) {
                return;
            }
            if (field.secret) {
                writeTexts(SECRET, 4, field);
                return;
            }
            int place = table.placeOfWhole(field);
            if (place > 0) {
                writeNumber(WHOLE, 7, place);
            } else if (field.cost() <= table.limit) {
                writeTexts(KEPT, 6, field);
                table.put(field);
            } else {
                writeTexts(LOOSE, 4, field);
            }
        }

        void writeTexts(int mark, int bits, Field field) {
            int place = table.placeOfName(field.name);
            writeNumber(mark, bits, place);
            if (place == 0) {
                writeText(field.name);
            }
            writeText(field.value);
        }

        void writeNumber(int mark, int bits, int value) {
            int most = (1 << bits) - 1;
            if (value < most) {
                out.add(mark + value);
                return;
            }
            out.add(mark + most);
            int rest = value - most;
            for (; rest > 127; rest = rest >> 7) {
                out.add(128 + (rest & 127));
            }
            out.add(rest);
        }

        void writeText(int[] text) {
            int tightSize = tightSize(text);
            if (tightSize < text.length) {
                writeNumber(TIGHT, 7, tightSize);
                writeTightly(text);
                return;
            }
            writeNumber(PLAIN, 7, text.length);
            for (int i = 0; i < text.length; i++) {
                out.add(text[i]);
            }
        }

        int tightSize(int[] text) {
            int bits = 0;
            for (int i = 0; i < text.length; i++) {
                bits += SIGNS.indexOf((char) text[i]) < 0 ? ESCAPED_BITS : SIGN_BITS;
            }
            return (bits + 7) / 8;
        }

        void writeTightly(int[] text) {
            int held = 0;
            int bits = 0;
            for (int i = 0; i < text.length; i++) {
                int sign = SIGNS.indexOf((char) text[i]);
                if (sign >= 0) {
                    held = held << SIGN_BITS | sign;
                    bits += SIGN_BITS;
                } else {
                    held = held << ESCAPED_BITS | ESCAPE << 8 | text[i];
                    bits += ESCAPED_BITS;
                }
                for (; bits >= 8; bits -= 8) {
                    out.add(held >> (bits - 8) & 255);
                }
                held = held & 255;
            }
            if (bits > 0) {
                out.add((held << (8 - bits) | 255 >> bits) & 255);
            }
        }
    }

    /** Reads a block into fields and a table of its own, so that a fault leaves no trace. */
    private static final class Unpacker {
        final Row in;
        final Fields fields = new Fields(MOST_FIELDS);
        final Table table;
        final int[] loosened = new int[MOST_TEXT];
        int at = 0;
        int fault = 0;

        Unpacker(Fields fixed, Row in) {
            this.in = in;
            table = new Table(fixed);
        }

        int readBlock(Table from) {
            at = 0;
            fault = 0;
            fields.clear();
            table.become(from);
            // each part takes one byte or more, so there are no more parts than bytes
            for (int parts = 0; parts < MOST_BLOCK && at < in.size && fault == 0; parts++) {
                int first = in.at(at);
                if (first >= LIMIT && first < KEPT) {
                    readLimit();
                } else if (fields.isFull()) {
                    fault = MANY_FIELDS;
                } else if (first >= WHOLE) {
                    readWhole();
                } else {
                    readTexts(first);
                }
            }
            return fault;
        }

        void readLimit() {
            int limit = readNumber(5);
            if (fault != 0) {
                return;
            }
            if (fields.size > 0 || limit > MOST_LIMIT) {
                fault = WRONG_LIMIT;
                return;
            }
            table.setLimit(limit);
        }

        void readWhole() {
            Field entry = entryAt(readNumber(7));
            if (entry != null) {
                fields.add(entry);
            }
        }

        void readTexts(int first) {
            boolean kept = first >= KEPT;
            int place = readNumber(kept ? 6 : 4);
            if (fault != 0) {
                return;
            }
            int[] name = place == 0 ? readText() : nameAt(place);
            int[] value = name == null ? null : readText();
            if (value == null) {
                return;
            }
            Field field = new Field(name, value, !kept && first >= SECRET);
            fields.add(field);
            if (kept) {
                table.put(field);
            }
        }

        int[] nameAt(int place) {
            Field entry = entryAt(place);
            return entry == null ? null : entry.name;
        }

        /** Null when there was a fault before or there is no entry, which is one. */
        Field entryAt(int place) {
            if (fault != 0) {
                return null;
            }
            Field entry = table.atPlace(place);
            if (entry == null) {
                fault = NO_SUCH_PLACE;
            }
            return entry;
        }

        /** The number in the lowest bits of the next byte and behind it; 0 when there was a fault. */
        int readNumber(int bits) {
            if (at >= in.size) {
                fault = BYTES_END;
                return 0;
            }
            int most = (1 << bits) - 1;
            int value = in.at(at) & most;
            at++;
            if (value < most) {
                return value;
            }
            for (int i = 0; i < MOST_NUMBER_BYTES; i++) {
                if (at >= in.size) {
                    fault = BYTES_END;
                    return 0;
                }
                int next = in.at(at);
                at++;
                value += (next & 127) << (7 * i);
                if (next < 128) {
                    fault = value > MOST_NUMBER ? WRONG_NUMBER : 0;
                    return value;
                }
            }
            fault = WRONG_NUMBER;
            return 0;
        }

        /** Null when there was a fault. */
        int[] readText() {
            boolean tight = in.at(at) >= TIGHT;
            int length = readNumber(7);
            if (fault != 0) {
                return null;
            }
            if (!tight && length > MOST_TEXT) {
                fault = LONG_TEXT;
                return null;
            }
            if (length > in.size - at) {
                fault = BYTES_END;
                return null;
            }
            at += length;
            return tight ? loosen(length) : Arrays.copyOfRange(in.cells, at - length, at);
        }

        /** The text in the tight bytes that end here; null when there was a fault. */
        int[] loosen(int length) {
            int size = 0;
            int left = 8 * length;
            while (left >= SIGN_BITS) {
                int sign = bitsBefore(left, SIGN_BITS);
                if (sign == ESCAPE && left < ESCAPED_BITS) {
                    break;
                }
                if (size >= MOST_TEXT) {
                    fault = LONG_TEXT;
                    return null;
                }
                if (sign == ESCAPE) {
                    loosened[size] = bitsBefore(left - SIGN_BITS, 8);
                    left -= ESCAPED_BITS;
                } else {
                    loosened[size] = SIGNS.charAt(sign);
                    left -= SIGN_BITS;
                }
                size++;
            }
            if (left >= 8 || bitsBefore(left, left) != (1 << left) - 1) {
                fault = WRONG_END;
                return null;
            }
            return Arrays.copyOf(loosened, size);
        }

        /** So many bits, from where some bits are left before the byte that comes next. */
        int bitsBefore(int left, int many) {
            int bits = 0;
            int from = 8 * at - left;
            for (int i = from; i < from + many; i++) {
                bits = bits << 1 | in.at(i >> 3) >> (7 - (i & 7)) & 1;
            }
            return bits;
        }
    }
}
