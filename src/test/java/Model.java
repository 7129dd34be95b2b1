import java.util.ArrayList;
import java.util.List;

/** The document once more, as plainly as can be: texts are Strings, blocks are strings of 0 and 1. */
final class Model {
    private static final String SIGNS = "0123456789aceilnorstdhmpu-./:=,";

    record Item(String name, String value, boolean secret) {
        int size() {
            return name.length() + value.length() + 32;
        }

        boolean same(Item other) {
            return name.equals(other.name) && value.equals(other.value);
        }
    }

    static final class Fault extends RuntimeException {
        private static final long serialVersionUID = 1L;
        final int number;

        Fault(int number) {
            this.number = number;
        }
    }

    private final List<Item> fixed = new ArrayList<>();
    private List<Item> list = new ArrayList<>();
    private final List<List<Item>> tables = new ArrayList<>(List.of(new ArrayList<>(), new ArrayList<>()));
    private final int[] limits = {256, 256};
    private final List<Integer> limitsSince = new ArrayList<>();
    private final int[] blocks = {0, 0};
    private int told = 256;
    private boolean begun = false;
    private String typed = "";
    private String name = "";
    private String block = "";
    private String loaded = "";
    private int faultPlace = -1;

    private static String lowest(long bytes, int n) {
        String all = "";
        for (int i = 0; i < n; i++) {
            all = (char) (bytes >> 8 * i & 255) + all;
        }
        return all;
    }

    int type(long bytes, int n) {
        if (n < 1 || n > 8 || typed.length() + n > 200) {
            return -1;
        }
        typed += lowest(bytes, n);
        return typed.length();
    }

    private String taken() {
        String was = typed;
        typed = "";
        return was;
    }

    int name() {
        name = taken();
        return name.length();
    }

    int fixed() {
        if (begun || fixed.size() == 20) {
            return -1;
        }
        fixed.add(new Item(name, taken(), false));
        return fixed.size();
    }

    int field(int secret) {
        if ((secret != 0 && secret != 1) || list.size() == 60) {
            return -1;
        }
        list.add(new Item(name, taken(), secret == 1));
        return list.size();
    }

    int drop() {
        int were = list.size();
        list = new ArrayList<>();
        return were;
    }

    int limit(int n) {
        if (n < 0 || n > 4096) {
            return 0;
        }
        limits[0] = n;
        limitsSince.add(n);
        trim(tables.get(0), n);
        return 1;
    }

    private static int sum(List<Item> table) {
        return table.stream().mapToInt(Item::size).sum();
    }

    private static void trim(List<Item> table, int room) {
        while (!table.isEmpty() && sum(table) > room) {
            table.remove(table.size() - 1);
        }
    }

    private static void put(List<Item> table, Item item, int limit) {
        trim(table, limit - item.size());
        if (item.size() <= limit) {
            table.add(0, item);
        }
    }

    private static String binary(int number, int bits) {
        String all = Integer.toBinaryString(1 << bits | number);
        return all.substring(all.length() - bits);
    }

    private static String number(int k, int value) {
        int ones = (1 << k) - 1;
        if (value < ones) {
            return binary(value, k);
        }
        String all = binary(ones, k);
        int rest = value - ones;
        while (rest >= 128) {
            all += "1" + binary(rest % 128, 7);
            rest /= 128;
        }
        return all + binary(rest, 8);
    }

    private static String text(String text) {
        StringBuilder plain = new StringBuilder("0" + number(7, text.length()));
        StringBuilder tight = new StringBuilder();
        for (char c : text.toCharArray()) {
            plain.append(binary(c, 8));
            tight.append(SIGNS.indexOf(c) < 0 ? "11111" + binary(c, 8) : binary(SIGNS.indexOf(c), 5));
        }
        tight.append("1".repeat((8 - tight.length() % 8) % 8));
        String whole = "1" + number(7, tight.length() / 8) + tight;
        return whole.length() < plain.length() ? whole : plain.toString();
    }

    private List<Item> places(List<Item> table) {
        List<Item> all = new ArrayList<>(fixed);
        all.addAll(table);
        return all;
    }

    private String texts(Item item, int k, List<Item> table) {
        int place = places(table).stream().map(Item::name).toList().indexOf(item.name()) + 1;
        return number(k, place) + (place == 0 ? text(item.name()) : "") + text(item.value());
    }

    private String limitBits() {
        int now = limits[0];
        int least = limitsSince.stream().mapToInt(n -> n).min().orElse(now);
        if (least < now && least < told) {
            return "001" + number(5, least) + "001" + number(5, now);
        }
        return now == told ? "" : "001" + number(5, now);
    }

    int pack() {
        begun = true;
        List<Item> table = new ArrayList<>(tables.get(0));
        StringBuilder bits = new StringBuilder(limitBits());
        for (Item item : list) {
            int whole = 0;
            List<Item> all = places(table);
            for (int i = all.size(); i > 0; i--) {
                whole = all.get(i - 1).same(item) ? i : whole;
            }
            if (item.secret()) {
                bits.append("0001").append(texts(item, 4, table));
            } else if (whole > 0) {
                bits.append("1").append(number(7, whole));
            } else if (item.size() <= limits[0]) {
                bits.append("01").append(texts(item, 6, table));
                put(table, item, limits[0]);
            } else {
                bits.append("0000").append(texts(item, 4, table));
            }
        }
        if (bits.length() > 8 * 6000) {
            return -2;
        }
        StringBuilder bytes = new StringBuilder();
        for (int i = 0; i < bits.length(); i += 8) {
            bytes.append((char) Integer.parseInt(bits.substring(i, i + 8), 2));
        }
        block = bytes.toString();
        tables.set(0, table);
        told = limits[0];
        limitsSince.clear();
        blocks[0]++;
        return block.length();
    }

    int packed(int k) {
        return charAt(block, k);
    }

    int load(long bytes, int n) {
        if (n < 1 || n > 8 || loaded.length() + n > 6000) {
            return -1;
        }
        loaded += lowest(bytes, n);
        return loaded.length();
    }

    int loop() {
        loaded = block;
        return loaded.length();
    }

    int unpack() {
        begun = true;
        List<Item> items = new ArrayList<>();
        List<Item> table = new ArrayList<>(tables.get(1));
        int[] limit = {limits[1]};
        String was = loaded;
        loaded = "";
        try {
            Bits bits = new Bits(was);
            while (bits.left() > 0) {
                part(bits, items, table, limit);
            }
        } catch (Fault fault) {
            faultPlace = items.size();
            return fault.number;
        }
        faultPlace = -1;
        list = items;
        tables.set(1, table);
        limits[1] = limit[0];
        blocks[1]++;
        return 0;
    }

    private void part(Bits bits, List<Item> items, List<Item> table, int[] limit) {
        if (bits.next("001")) {
            int n = bits.number(5);
            if (!items.isEmpty() || n > 4096) {
                throw new Fault(3);
            }
            limit[0] = n;
            trim(table, n);
            return;
        }
        if (items.size() == 60) {
            throw new Fault(7);
        }
        if (bits.next("1")) {
            items.add(at(table, bits.number(7)));
            return;
        }
        boolean kept = bits.next("01");
        boolean secret = !kept && bits.next("0001");
        if (!kept && !secret) {
            bits.next("0000");
        }
        int place = bits.number(kept ? 6 : 4);
        String itemName = place == 0 ? bits.text() : at(table, place).name();
        Item item = new Item(itemName, bits.text(), secret);
        items.add(item);
        if (kept) {
            put(table, item, limit[0]);
        }
    }

    private Item at(List<Item> table, int place) {
        List<Item> all = places(table);
        if (place < 1 || place > all.size()) {
            throw new Fault(2);
        }
        return all.get(place - 1);
    }

    /** The bits of a block, taken from its front. */
    private static final class Bits {
        private final String all;
        private int from = 0;

        Bits(String bytes) {
            StringBuilder bits = new StringBuilder();
            for (char c : bytes.toCharArray()) {
                bits.append(binary(c, 8));
            }
            all = bits.toString();
        }

        int left() {
            return all.length() - from;
        }

        boolean next(String mark) {
            boolean is = all.startsWith(mark, from);
            from += is ? mark.length() : 0;
            return is;
        }

        String take(int many) {
            if (many > left()) {
                throw new Fault(1);
            }
            from += many;
            return all.substring(from - many, from);
        }

        int number(int k) {
            String first = take(k);
            long value = Long.parseLong(first, 2);
            if (!first.contains("0")) {
                long unit = 1;
                String more;
                do {
                    more = take(8);
                    value += unit * Integer.parseInt(more.substring(1), 2);
                    unit *= 128;
                    if (unit == 1L << 28 && more.startsWith("1")) {
                        throw new Fault(4);
                    }
                } while (more.startsWith("1"));
            }
            if (value > 100000) {
                throw new Fault(4);
            }
            return (int) value;
        }

        String text() {
            boolean tight = take(1).equals("1");
            int n = number(7);
            if (!tight && n > 200) {
                throw new Fault(5);
            }
            String rest = take(8 * n);
            StringBuilder text = new StringBuilder();
            while (!rest.isEmpty()) {
                boolean sign = tight && rest.length() >= 5 && !rest.startsWith("11111");
                int bits = !tight ? 8 : sign ? 5 : 13;
                if (rest.length() < bits) {
                    break;
                }
                int code = Integer.parseInt(rest.substring(tight && !sign ? 5 : 0, bits), 2);
                text.append(sign ? SIGNS.charAt(code) : (char) code);
                rest = rest.substring(bits);
                if (text.length() > 200) {
                    throw new Fault(5);
                }
            }
            if (rest.length() >= 8 || rest.contains("0")) {
                throw new Fault(6);
            }
            return text.toString();
        }
    }

    int place() {
        return faultPlace;
    }

    private static int charAt(String text, int k) {
        return k < 0 || k >= text.length() ? -1 : text.charAt(k);
    }

    private static Item get(List<Item> items, int i) {
        return i < 0 || i >= items.size() ? null : items.get(i);
    }

    private static int byteIn(Item item, int part, int k) {
        return item == null || part < 0 || part > 1 ? -1 : charAt(part == 0 ? item.name() : item.value(), k);
    }

    int about(int i, int what) {
        Item item = get(list, i);
        if (item == null || what < 0 || what > 2) {
            return -1;
        }
        return new int[] {item.name().length(), item.value().length(), item.secret() ? 1 : 0}[what];
    }

    int byteOf(int i, int part, int k) {
        return byteIn(get(list, i), part, k);
    }

    int table(int side, int what) {
        if (side < 0 || side > 1 || what < 0 || what > 2) {
            return -1;
        }
        List<Item> table = tables.get(side);
        return new int[] {table.size(), sum(table), limits[side]}[what];
    }

    private Item entryAt(int side, int i) {
        return side < 0 || side > 1 ? null : get(tables.get(side), i);
    }

    int entry(int side, int i) {
        Item item = entryAt(side, i);
        return item == null ? -1 : item.size();
    }

    int entryByte(int side, int i, int part, int k) {
        return byteIn(entryAt(side, i), part, k);
    }

    int count(int what) {
        int[] all = {list.size(), fixed.size(), typed.length(), loaded.length(), block.length(), blocks[0], blocks[1]};
        return what < 0 || what >= all.length ? -1 : all[what];
    }

    int check() {
        return 1;
    }
}
