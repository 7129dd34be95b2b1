import java.util.ArrayList;
import java.util.List;
import java.util.function.Consumer;
import java.util.function.Function;
import java.util.function.ToIntFunction;

/**
 * Two objects with the same calls behind them, one of which gets one call more. When that call does nothing, they go on
 * alike: what can be seen of them at once, and what only later calls bring to light (the typed and loaded bytes, the
 * name that goes on, the limits that are still to be told, whether fixed entries are still taken).
 */
final class Twins {
    private static final List<Function<Trial, String>> LOOKS = List.of(
        Twins::seen, Twins::typedValue, Twins::fixedEntry, Twins::nextBlock, Twins::nextBlockAtFullLimit,
        Twins::emptyBlock, Twins::unpacked, Twins::looped);

    private Twins() {
    }

    /** The call answers what it should, and does nothing. */
    static void dueNothing(String call, Consumer<Trial> before, ToIntFunction<Counted> extra, int want) {
        for (Function<Trial, String> look : LOOKS) {
            Trial with = new Trial();
            before.accept(with);
            Trial.due(call, extra.applyAsInt(with.x), want);
            Trial without = new Trial();
            before.accept(without);
            Trial.due(call + ", and what comes then,", look.apply(with), look.apply(without));
        }
    }

    /** What can be seen at once: all that is short, and the ends of what is long. */
    private static String seen(Trial t) {
        List<Object> all = new ArrayList<>();
        for (int what = 0; what < 7; what++) {
            all.add(t.x.count(what));
        }
        all.add(t.x.place());
        all.add(t.x.check());
        all.add(fields(t));
        all.add(entries(t, 0));
        all.add(entries(t, 1));
        all.add(block(t));
        return all.toString();
    }

    private static String typedValue(Trial t) {
        t.x.drop();
        return t.x.field(0) + " " + t.x.count(2) + " " + t.list();
    }

    private static String fixedEntry(Trial t) {
        int place = t.x.fixed();
        t.x.drop();
        t.x.name();
        t.field("fixed", "entry");
        return place + " " + t.x.count(1) + " " + t.pack();
    }

    private static String nextBlock(Trial t) {
        return t.x.pack() + " " + block(t) + entries(t, 0);
    }

    private static String nextBlockAtFullLimit(Trial t) {
        t.x.limit(4096);
        return t.x.pack() + " " + block(t) + entries(t, 0);
    }

    private static String emptyBlock(Trial t) {
        t.x.drop();
        return t.x.pack() + " " + block(t);
    }

    private static String unpacked(Trial t) {
        return t.x.unpack() + " " + t.x.place() + " " + fields(t) + entries(t, 1) + t.x.count(6);
    }

    private static String looped(Trial t) {
        return t.x.loop() + " " + t.x.unpack() + " " + t.x.place() + " " + fields(t) + entries(t, 1);
    }

    /** The numbers of the first and the last ones of so many. */
    private static List<Integer> ends(int size, int most) {
        List<Integer> all = new ArrayList<>();
        for (int i = 0; i < size; i++) {
            if (i < most || i >= size - most) {
                all.add(i);
            }
        }
        return all;
    }

    private static String fields(Trial t) {
        List<Object> all = new ArrayList<>();
        for (int i : ends(t.x.count(0), 3)) {
            all.add(t.x.about(i, 2));
            for (int part = 0; part < 2; part++) {
                int length = t.x.about(i, part);
                all.add(length + ":" + t.x.byteOf(i, part, 0) + "-" + t.x.byteOf(i, part, length - 1));
            }
        }
        return all.toString();
    }

    private static String entries(Trial t, int side) {
        List<Object> all = new ArrayList<>();
        int size = t.x.table(side, 0);
        all.add(size + "," + t.x.table(side, 1) + "/" + t.x.table(side, 2));
        for (int i : ends(size, 3)) {
            all.add(t.x.entry(side, i) + ":" + t.x.entryByte(side, i, 0, 0) + "=" + t.x.entryByte(side, i, 1, 0));
        }
        return all.toString();
    }

    private static String block(Trial t) {
        StringBuilder hex = new StringBuilder();
        for (int k : ends(t.x.count(4), 12)) {
            hex.append(String.format("%02x", t.x.packed(k)));
        }
        return hex.append(t.x.packed(t.x.count(4))).toString();
    }
}
