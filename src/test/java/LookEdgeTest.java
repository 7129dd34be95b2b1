/** Promises 14 to 20: each sentence that names a boundary case, in the document's order. */
public final class LookEdgeTest {
    private static final int NONE = FieldPacker.NONE;
    private static final int[] FAR = {Integer.MIN_VALUE, -256, 256, Integer.MAX_VALUE};

    public static void main(String[] args) {
        aboutTheLengths();
        aboutNoSuchField();
        aboutNoSuchWhat();
        byteOfTheFirstAndTheLast();
        byteOfNoSuch();
        tableOfBothSides();
        tableOfOthers();
        entrySizes();
        entryOfNoSuch();
        entryByteOfTheFirstAndTheLast();
        entryByteOfNoSuch();
        countOfEach();
        countOfOthers();
        countsThatRefusedCallsLeave();
        countsOfAllCalls();
        checkAtTheEdges();
        looksChangeNothing();
        Trial.end();
    }

    private static void aboutTheLengths() {
        Trial.holds("promise 14", "how many bytes its name has (what 0), its value (1), whether it is secret (2: 1, 0)");
        Trial t = new Trial().field("", "").secret(Trial.many("N", 200), "").field("", Trial.many("V", 200));
        String[] want = {"0 0 0", "200 0 1", "0 200 0"};
        for (int i = 0; i < want.length; i++) {
            Trial.due("about " + i, t.x.about(i, 0) + " " + t.x.about(i, 1) + " " + t.x.about(i, 2), want[i]);
        }
    }

    private static void aboutNoSuchField() {
        Trial.holds("promise 14", "NONE when there is none such");
        Trial t = new Trial();
        for (int many = 0; many <= 60; many++) {
            dueNoField(t, many);
            t.x.field(0);
        }
        Trial.due("the 60th", t.x.about(59, 0), 0);
        dueNoField(t, -1);
        for (int i : FAR) {
            dueNoField(t, i);
        }
        t.x.drop();
        dueNoField(t, 0);
        dueNoField(t, 59);
        t.field("a", "").field("b", "");
        t.unpack("4000" + "00");
        Trial.due("the only one unpacked", t.x.about(0, 0), 0);
        dueNoField(t, 1);
    }

    private static void dueNoField(Trial t, int i) {
        for (int what = 0; what < 3; what++) {
            Trial.due("about " + i + " " + what, t.x.about(i, what), NONE);
        }
    }

    private static void aboutNoSuchWhat() {
        Trial.holds("promise 14", "NONE when there is none such");
        Trial t = new Trial().secret("a", "1");
        Trial.due("about -1", t.x.about(0, -1), NONE);
        Trial.due("about 3", t.x.about(0, 3), NONE);
        for (int what : FAR) {
            Trial.due("about " + what, t.x.about(0, what), NONE);
        }
    }

    private static void byteOfTheFirstAndTheLast() {
        Trial.holds("promise 15", "Byte k of a field's name (part 0) or value (1)");
        Trial t = new Trial().field("\0" + Trial.many("n", 198) + "\u00ff", "\u0080" + Trial.many("v", 198) + "\u007f");
        Trial.due("first of the name", t.x.byteOf(0, 0, 0), 0);
        Trial.due("last of the name", t.x.byteOf(0, 0, 199), 255);
        Trial.due("first of the value", t.x.byteOf(0, 1, 0), 128);
        Trial.due("last of the value", t.x.byteOf(0, 1, 199), 127);
        Trial.due("behind the name", t.x.byteOf(0, 0, 200), NONE);
        Trial.due("behind the value", t.x.byteOf(0, 1, 200), NONE);
    }

    private static void byteOfNoSuch() {
        Trial.holds("promise 15", "NONE when there is none such");
        Trial t = new Trial().field("ab", "c").field("", "");
        Trial.due("taken", t.x.byteOf(0, 0, 1) + " " + t.x.byteOf(0, 1, 0), "98 99");
        int[][] none = {{0, 0, 2}, {0, 0, -1}, {0, 1, 1}, {0, 1, -1}, {0, -1, 0}, {0, 2, 0}, {-1, 0, 0}, {-1, 1, 0},
            {1, 0, 0}, {1, 1, 0}, {2, 0, 0}, {2, 1, 0}};
        for (int[] a : none) {
            Trial.due("byteOf " + a[0] + " " + a[1] + " " + a[2], t.x.byteOf(a[0], a[1], a[2]), NONE);
        }
        for (int far : FAR) {
            Trial.due("field " + far, t.x.byteOf(far, 0, 0), NONE);
            Trial.due("part " + far, t.x.byteOf(0, far, 0), NONE);
            Trial.due("byte " + far, t.x.byteOf(0, 0, far), NONE);
        }
        t.x.drop();
        Trial.due("dropped", t.x.byteOf(0, 0, 0), NONE);
    }

    private static void tableOfBothSides() {
        Trial.holds("promise 16", "how many entries its table has (what 0), their sizes together (1), its limit (2)");
        Trial t = new Trial().field("abc", "d").field("e", "");
        t.pack();
        Trial.due("packing", t.x.table(0, 0) + " " + t.x.table(0, 1) + " " + t.x.table(0, 2), "2 69 256");
        Trial.due("unpacking", t.x.table(1, 0) + " " + t.x.table(1, 1) + " " + t.x.table(1, 2), "0 0 256");
        t.limit(0);
        t.unpack("3fe11f" + "400000");
        Trial.due("packing", t.x.table(0, 0) + " " + t.x.table(0, 1) + " " + t.x.table(0, 2), "0 0 0");
        Trial.due("unpacking", t.x.table(1, 0) + " " + t.x.table(1, 1) + " " + t.x.table(1, 2), "1 32 4096");
    }

    private static void tableOfOthers() {
        Trial.holds("promise 16", "NONE for others");
        Trial t = new Trial().field("a", "1");
        t.pack();
        t.around();
        for (int other : new int[] {-1, 2, 3, -2}) {
            for (int what = 0; what < 3; what++) {
                Trial.due("side " + other, t.x.table(other, what), NONE);
            }
        }
        for (int side = 0; side < 2; side++) {
            for (int other : new int[] {-1, 3, 4}) {
                Trial.due("what " + other, t.x.table(side, other), NONE);
            }
            for (int far : FAR) {
                Trial.due("what " + far, t.x.table(side, far), NONE);
                Trial.due("side " + far, t.x.table(far, side), NONE);
            }
        }
    }

    private static void entrySizes() {
        Trial.holds("promise 17", "The size of a side's entry, i from 0, the newest first");
        Trial t = new Trial().limit(4096).field("", "").field("", "v").field("nn", "");
        t.field(Trial.many("N", 200), Trial.many("V", 200));
        t.pack();
        t.around();
        for (int side = 0; side < 2; side++) {
            int[] want = {432, 34, 33, 32, NONE};
            for (int i = 0; i < want.length; i++) {
                Trial.due("entry " + i, t.x.entry(side, i), want[i]);
            }
        }
    }

    private static void entryOfNoSuch() {
        Trial.holds("promise 17", "NONE when there is none such");
        Trial t = new Trial().fixed("f", "x").field("a", "1").field("b", "2");
        for (int side = 0; side < 2; side++) {
            Trial.due("none yet, though there is a fixed one", t.x.entry(side, 0), NONE);
        }
        t.pack();
        Trial.due("none on the other side", t.x.entry(1, 0), NONE);
        t.around();
        for (int side = 0; side < 2; side++) {
            Trial.due("the last", t.x.entry(side, 1), 34);
            Trial.due("behind it", t.x.entry(side, 2), NONE);
            Trial.due("before the first", t.x.entry(side, -1), NONE);
            for (int far : FAR) {
                Trial.due("entry " + far, t.x.entry(side, far), NONE);
                Trial.due("side " + far, t.x.entry(far, side), NONE);
            }
            Trial.due("side -1", t.x.entry(-1, side), NONE);
            Trial.due("side 2", t.x.entry(2, side), NONE);
        }
        t.limit(34);
        Trial.due("gone", t.x.entry(0, 0) + " " + t.x.entry(0, 1), "34 -1");
        t.unpack("20");
        Trial.due("all gone", t.x.entry(1, 0) + " " + t.x.entry(1, 1), "-1 -1");
    }

    private static void entryByteOfTheFirstAndTheLast() {
        Trial.holds("promise 18", "Byte k of a side's entry's name (part 0) or value (1)");
        Trial t = new Trial().limit(4096).field("old", "O");
        t.field("\0" + Trial.many("n", 198) + "\u00ff", "\u0080" + Trial.many("v", 198) + "\u007f");
        t.pack();
        t.around();
        for (int side = 0; side < 2; side++) {
            Trial.due("first of the name", t.x.entryByte(side, 0, 0, 0), 0);
            Trial.due("last of the name", t.x.entryByte(side, 0, 0, 199), 255);
            Trial.due("first of the value", t.x.entryByte(side, 0, 1, 0), 128);
            Trial.due("last of the value", t.x.entryByte(side, 0, 1, 199), 127);
            Trial.due("behind the name", t.x.entryByte(side, 0, 0, 200), NONE);
            Trial.due("behind the value", t.x.entryByte(side, 0, 1, 200), NONE);
            Trial.due("the oldest", t.x.entryByte(side, 1, 0, 2) + " " + t.x.entryByte(side, 1, 1, 0), "100 79");
        }
    }

    private static void entryByteOfNoSuch() {
        Trial.holds("promise 18", "NONE when there is none such");
        Trial t = new Trial().fixed("f", "x").field("ab", "c").field("", "");
        Trial.due("none yet", t.x.entryByte(0, 0, 0, 0) + " " + t.x.entryByte(1, 0, 0, 0), "-1 -1");
        t.pack();
        Trial.due("none on the other side", t.x.entryByte(1, 1, 0, 0), NONE);
        t.around();
        int[][] none = {{1, 0, 2}, {1, 0, -1}, {1, 1, 1}, {1, 1, -1}, {1, -1, 0}, {1, 2, 0}, {0, 0, 0}, {0, 1, 0},
            {2, 0, 0}, {2, 1, 0}, {-1, 0, 0}, {-1, 1, 0}};
        for (int side = 0; side < 2; side++) {
            Trial.due("taken", t.x.entryByte(side, 1, 0, 1) + " " + t.x.entryByte(side, 1, 1, 0), "98 99");
            for (int[] a : none) {
                Trial.due("entryByte " + a[0] + " " + a[1] + " " + a[2], t.x.entryByte(side, a[0], a[1], a[2]), NONE);
            }
            for (int far : FAR) {
                Trial.due("entry " + far, t.x.entryByte(side, far, 0, 0), NONE);
                Trial.due("part " + far, t.x.entryByte(side, 1, far, 0), NONE);
                Trial.due("byte " + far, t.x.entryByte(side, 1, 0, far), NONE);
                Trial.due("side " + far, t.x.entryByte(far, 1, 0, 0), NONE);
            }
        }
        Trial.due("side -1", t.x.entryByte(-1, 1, 0, 0), NONE);
        Trial.due("side 2", t.x.entryByte(2, 1, 0, 0), NONE);
    }

    private static void dueCounts(String what, Trial t, String want) {
        StringBuilder all = new StringBuilder();
        for (int k = 0; k < 7; k++) {
            all.append(k == 0 ? "" : " ").append(t.x.count(k));
        }
        Trial.due(what, all.toString(), want);
    }

    private static void countOfEach() {
        Trial.holds("promise 19", "How many fields (what 0), fixed entries (1), bytes typed (2), loaded (3), packed latest (4), "
            + "blocks packed (5) and unpacked without a fault (6) there are, or were");
        Trial t = new Trial();
        dueCounts("new", t, "0 0 0 0 0 0 0");
        t.fixed("f", "1").field("a", "1").field("b", "2").field("c", "3").type("12").load("818281");
        dueCounts("before any block", t, "3 1 2 3 0 0 0");
        t.pack();
        dueCounts("packed", t, "3 1 2 3 15 1 0");
        t.pack();
        dueCounts("packed again", t, "3 1 2 3 3 2 0");
        t.x.drop();
        t.x.pack();
        dueCounts("an empty block", t, "0 1 2 3 0 3 0");
        Trial.due("a fault", t.x.unpack(), 2);
        dueCounts("a fault", t, "0 1 2 0 0 3 0");
        t.x.unpack();
        dueCounts("an empty block unpacked", t, "0 1 2 0 0 3 1");
        t.unpack("8181");
        dueCounts("two fields unpacked", t, "2 1 2 0 0 3 2");
    }

    private static void countOfOthers() {
        Trial.holds("promise 19", "NONE for others");
        Trial t = new Trial().field("a", "1");
        Trial.due("the first", t.x.count(0), 1);
        Trial.due("the last", t.x.count(6), 0);
        for (int what : new int[] {-1, 7, 8, -2}) {
            Trial.due("count " + what, t.x.count(what), NONE);
        }
        for (int what : FAR) {
            Trial.due("count " + what, t.x.count(what), NONE);
        }
    }

    private static void countsThatRefusedCallsLeave() {
        Trial.holds("promise 19", "blocks packed (5) and unpacked without a fault (6) there are, or were");
        Trial t = new Trial().field("a", "1");
        t.pack();
        t.name(Trial.many("Z", 200));
        for (int i = 0; i < 30; i++) {
            t.x.field(1);
        }
        Trial.due("too long", t.x.pack(), FieldPacker.FULL);
        dueCounts("after FULL", t, "31 0 0 0 5 1 0");
        t.x.loop();
        dueCounts("looped", t, "31 0 0 5 5 1 0");
        t.x.unpack();
        dueCounts("unpacked", t, "1 0 0 0 5 1 1");
        t.unpack("80");
        dueCounts("after a fault", t, "1 0 0 0 5 1 1");
    }

    private static void countsOfAllCalls() {
        Trial.holds("what it is", "An object is used for at most 512 calls after it has been made");
        Trial packed = new Trial();
        Trial unpacked = new Trial();
        for (int i = 0; i < 510; i++) {
            Trial.due("pack", packed.x.pack(), 0);
            Trial.due("unpack", unpacked.x.unpack(), 0);
        }
        Trial.due("blocks packed", packed.x.count(5) + " " + packed.x.check(), "510 1");
        Trial.due("blocks unpacked", unpacked.x.count(6) + " " + unpacked.x.check(), "510 1");
    }

    private static void checkAtTheEdges() {
        Trial.holds("promise 20", "Whether no table is over its limit, and sizes are those of entries: 1");
        Trial t = new Trial();
        Trial.due("new", t.x.check(), 1);
        t.limit(102).field("a", "1").field("b", "2").field("c", "3");
        t.pack();
        t.around();
        Trial.due("both at their limit", t.table(0) + t.table(1) + t.x.check(), "c=3 b=2 a=1 102/102c=3 b=2 a=1 102/1021");
        t.limit(101);
        Trial.due("one less", t.x.check(), 1);
        t.unpack("3f46");
        Trial.due("one less there", t.table(1) + t.x.check(), "c=3 b=2 68/1011");
        t.limit(0);
        Trial.due("none", t.x.check(), 1);
        t.unpack("20");
        Trial.due("none there", t.x.check(), 1);
        t.limit(4097).limit(-1);
        t.unpack("ff");
        Trial.due("after refused calls", t.x.check(), 1);
        t.limit(4096);
        t.pack();
        t.around();
        Trial.due("as large as can be", t.x.check(), 1);
        t.unpack("3f49" + "40" + "7f00" + Trial.many("41", 127) + "00");
        Trial.due("one too large for it", t.table(1) + t.x.check(), "0/1041");
    }

    private static void looksChangeNothing() {
        Trial.holds("not promised", "Nothing is promised beyond the answers and state changes described above");
        for (int look = 0; look < 9; look++) {
            int which = look;
            Trial t = new Trial();
            state(t);
            int want = look(t.x, which);
            Twins.dueNothing("look " + look, LookEdgeTest::state, x -> look(x, which), want);
        }
    }

    private static void state(Trial t) {
        t.fixed("f", "x").field("a", "1").secret("b", "2").limit(90);
        t.pack();
        t.limit(70).limit(80).field("c", "3").type("typed").load("8180");
    }

    private static int look(Counted x, int which) {
        switch (which) {
            case 0:
                return x.packed(0);
            case 1:
                return x.place();
            case 2:
                return x.about(0, 1);
            case 3:
                return x.byteOf(0, 0, 0);
            case 4:
                return x.table(0, 1);
            case 5:
                return x.entry(0, 0);
            case 6:
                return x.entryByte(0, 0, 1, 0);
            case 7:
                return x.count(3);
            default:
                return x.check();
        }
    }
}
