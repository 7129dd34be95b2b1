/** Promises 1 to 7, 9 to 11 and 13 to 20: the calls around packing and unpacking. */
public final class StateTest {
    public static void main(String[] args) {
        newObject();
        type();
        name();
        fixed();
        fixedAfterPacking();
        field();
        drop();
        limit();
        packed();
        load();
        loop();
        place();
        about();
        byteOf();
        table();
        entry();
        entryByte();
        count();
        check();
        Trial.end();
    }

    private static void newObject() {
        Trial t = new Trial();
        int[] counts = {0, 0, 0, 0, 0, 0, 0};
        for (int what = 0; what < counts.length; what++) {
            Trial.due("new count " + what, t.x.count(what), 0);
        }
        Trial.due("new packing table", t.table(0), "0/256");
        Trial.due("new unpacking table", t.table(1), "0/256");
        Trial.due("new list", t.list(), "");
        Trial.due("new place", t.x.place(), FieldPacker.NONE);
        Trial.due("new packed", t.x.packed(0), FieldPacker.NONE);
        Trial.due("new check", t.x.check(), 1);
        Trial.due("new field without a name", t.x.field(0), 1);
        Trial.due("its name", t.x.about(0, 0), 0);
        Trial.due("two objects are apart", new Trial().x.count(0), 0);
    }

    private static void type() {
        Trial t = new Trial();
        Trial.due("type 0 bytes", t.x.type(7, 0), FieldPacker.NONE);
        Trial.due("type 9 bytes", t.x.type(7, 9), FieldPacker.NONE);
        Trial.due("type -1 bytes", t.x.type(7, -1), FieldPacker.NONE);
        Trial.due("type least int", t.x.type(7, Integer.MIN_VALUE), FieldPacker.NONE);
        Trial.due("nothing typed", t.x.count(2), 0);
        Trial.due("type 3", t.x.type(0x1122334455L, 3), 3);
        Trial.due("type 8", t.x.type(-2L, 8), 11);
        t.x.field(0);
        int[] want = {0x33, 0x44, 0x55, 255, 255, 255, 255, 255, 255, 255, 254, FieldPacker.NONE};
        for (int k = 0; k < want.length; k++) {
            Trial.due("typed byte " + k, t.x.byteOf(0, 1, k), want[k]);
        }
        t.type(Trial.many("q", 193));
        Trial.due("type to 201", t.x.type(1, 8), FieldPacker.NONE);
        Trial.due("still 193", t.x.count(2), 193);
        Trial.due("type to 200", t.x.type(1, 7), 200);
        Trial.due("type to 201 by one", t.x.type(1, 1), FieldPacker.NONE);
        Trial.due("200 typed", t.x.count(2), 200);
    }

    private static void name() {
        Trial t = new Trial();
        t.type("abc");
        Trial.due("name", t.x.name(), 3);
        Trial.due("none typed then", t.x.count(2), 0);
        t.type("1");
        t.x.field(0);
        t.type("2");
        t.x.field(0);
        Trial.due("both fields have the name", t.list(), "abc=1 abc=2");
        Trial.due("empty name", t.x.name(), 0);
        t.x.field(1);
        Trial.due("earlier names stay", t.list(), "abc=1 abc=2 *=");
        t.type(Trial.many("n", 200));
        Trial.due("longest name", t.x.name(), 200);
    }

    private static void fixed() {
        Trial t = new Trial();
        t.name("n");
        for (int i = 1; i <= 20; i++) {
            t.type("v" + i);
            Trial.due("fixed entry", t.x.fixed(), i);
            Trial.due("none typed then", t.x.count(2), 0);
        }
        t.type("more");
        Trial.due("21st fixed entry", t.x.fixed(), FieldPacker.NONE);
        Trial.due("typed bytes stay", t.x.count(2), 4);
        Trial.due("20 of them", t.x.count(1), 20);
        Trial.due("tables stay empty", t.table(0) + " " + t.table(1), "0/256 0/256");
        t.x.name();
        t.field("n", "v20").field("n", "v1").field("n", "");
        Trial.due("found by their places", t.pack(), "9481" + "41" + "00");
        Trial.due("places in unpacking too", t.around(), "0 -1");
        Trial.due("unpacked by their places", t.list(), "n=v20 n=v1 n=");
    }

    private static void fixedAfterPacking() {
        Trial packed = new Trial();
        packed.x.pack();
        packed.type("v");
        Trial.due("fixed after pack", packed.x.fixed(), FieldPacker.NONE);
        Trial.due("typed bytes stay", packed.x.count(2), 1);
        Trial unpacked = new Trial();
        unpacked.x.unpack();
        Trial.due("fixed after unpack", unpacked.x.fixed(), FieldPacker.NONE);
        Trial faulty = new Trial();
        faulty.unpack("ff");
        Trial.due("fixed after a fault", faulty.x.fixed(), FieldPacker.NONE);
        Trial full = new Trial();
        full.name(Trial.many("Z", 200));
        for (int i = 0; i < 30; i++) {
            full.x.field(1);
        }
        Trial.due("too long", full.x.pack(), FieldPacker.FULL);
        Trial.due("fixed after FULL", full.x.fixed(), FieldPacker.NONE);
        Trial looped = new Trial();
        looped.x.loop();
        looped.load("81");
        looped.limit(9);
        Trial.due("fixed after other calls", looped.x.fixed(), 1);
    }

    private static void field() {
        Trial t = new Trial();
        t.name("n").type("v");
        Trial.due("field(2)", t.x.field(2), FieldPacker.NONE);
        Trial.due("field(-1)", t.x.field(-1), FieldPacker.NONE);
        Trial.due("typed bytes stay", t.x.count(2), 1);
        for (int i = 1; i <= 60; i++) {
            Trial.due("field", t.x.field(i & 1), i);
        }
        Trial.due("secret or not", t.x.about(0, 2) + " " + t.x.about(1, 2), "1 0");
        Trial.due("value once only", t.x.about(0, 1) + " " + t.x.about(1, 1), "1 0");
        t.type("more");
        Trial.due("61st field", t.x.field(0), FieldPacker.NONE);
        Trial.due("typed bytes stay", t.x.count(2), 4);
        Trial.due("60 fields", t.x.count(0), 60);
    }

    private static void drop() {
        Trial t = new Trial();
        Trial.due("drop none", t.x.drop(), 0);
        t.field("a", "1").secret("b", "2").type("t");
        Trial.due("drop two", t.x.drop(), 2);
        Trial.due("none then", t.x.count(0) + " " + t.x.about(0, 0), "0 -1");
        Trial.due("typed bytes stay", t.x.count(2), 1);
        Trial.due("name stays", t.x.field(0) + t.list(), "1b=t");
    }

    private static void limit() {
        Trial t = new Trial();
        t.field("a", "1").field("b", "2").field("c", "3");
        t.pack();
        t.around();
        Trial.due("limit 4097", t.x.limit(4097), 0);
        Trial.due("limit -1", t.x.limit(-1), 0);
        Trial.due("limit least", t.x.limit(Integer.MIN_VALUE), 0);
        Trial.due("nothing done", t.table(0), "c=3 b=2 a=1 102/256");
        Trial.due("limit of all", t.x.limit(102), 1);
        Trial.due("all stay", t.table(0), "c=3 b=2 a=1 102/102");
        Trial.due("limit of less", t.x.limit(101), 1);
        Trial.due("oldest goes at once", t.table(0), "c=3 b=2 68/101");
        Trial.due("limit 0", t.x.limit(0), 1);
        Trial.due("all go", t.table(0), "0/0");
        Trial.due("limit 4096", t.x.limit(4096), 1);
        Trial.due("none come back", t.table(0), "0/4096");
        Trial.due("other side as it was", t.table(1), "c=3 b=2 a=1 102/256");
    }

    private static void packed() {
        Trial t = new Trial();
        t.field("Z", "\u00ff");
        t.pack();
        int[] want = {0x40, 1, 'Z', 1, 255, FieldPacker.NONE};
        for (int k = 0; k < want.length; k++) {
            Trial.due("packed byte " + k, t.x.packed(k), want[k]);
        }
        Trial.due("packed(-1)", t.x.packed(-1), FieldPacker.NONE);
        Trial.due("packed least", t.x.packed(Integer.MIN_VALUE), FieldPacker.NONE);
        Trial.due("packed most", t.x.packed(Integer.MAX_VALUE), FieldPacker.NONE);
        t.pack();
        Trial.due("the latest block alone", t.x.packed(0) + " " + t.x.packed(1), "129 -1");
        t.around();
        Trial.due("unpacking leaves it", t.x.packed(0), 129);
    }

    private static void load() {
        Trial t = new Trial();
        Trial.due("load 0 bytes", t.x.load(1, 0), FieldPacker.NONE);
        Trial.due("load 9 bytes", t.x.load(1, 9), FieldPacker.NONE);
        Trial.due("load 2", t.x.load(0xff4001L, 2), 2);
        Trial.due("load 3 behind", t.x.load(0x410142L, 3), 5);
        Trial.due("unpack", t.x.unpack(), 0);
        Trial.due("in their order", t.list(), "A=B");
        Trial.due("none loaded then", t.x.count(3), 0);
        Trial.due("load anew", t.x.load(1, 1), 1);
    }

    private static void loop() {
        Trial t = new Trial();
        t.load("8181");
        Trial.due("loop before a block", t.x.loop(), 0);
        Trial.due("in place of others", t.x.count(3), 0);
        Trial big = sixThousand();
        Trial.due("largest block", big.x.pack(), 6000);
        big.load("8181");
        Trial.due("loop", big.x.loop(), 6000);
        Trial.due("loaded", big.x.count(3), 6000);
        Trial.due("load a 6001st", big.x.load(1, 1), FieldPacker.NONE);
        Trial.due("still loaded", big.x.count(3), 6000);
        Trial.due("unpack it", big.x.unpack(), 0);
        Trial.due("its fields", big.x.count(0), 30);
        Trial small = new Trial();
        small.field("a", "1");
        small.pack();
        Trial.due("loop", small.x.loop(), 5);
        Trial.due("load behind it", small.x.load(0x81, 1), 6);
        Trial.due("unpack both", small.x.unpack() + " " + small.list(), "0 a=1 a=1");
    }

    /** A list whose block has 6000 bytes: 29 of 204, one of 84. */
    static Trial sixThousand() {
        Trial t = new Trial();
        t.name(Trial.many("Z", 200));
        for (int i = 0; i < 29; i++) {
            t.x.field(1);
        }
        return t.secret("Y", Trial.many("X", 80));
    }

    private static void place() {
        Trial t = new Trial();
        t.fixed("a", "1");
        Trial.due("fault in the third", t.unpack("8181ff"), "1 2");
        Trial.due("fault in the second", t.unpack("8180"), "2 1");
        t.pack();
        Trial.due("pack leaves it", t.x.place(), 1);
        Trial.due("a limit behind two", t.unpack("818120"), "3 2");
        Trial.due("a limit before all", t.unpack("3fff7f"), "3 0");
        Trial.due("none", t.unpack("81"), "0 -1");
    }

    private static void about() {
        Trial t = new Trial();
        t.field("abc", "de").secret("", "");
        Trial.due("name", t.x.about(0, 0), 3);
        Trial.due("value", t.x.about(0, 1), 2);
        Trial.due("not secret", t.x.about(0, 2), 0);
        Trial.due("empty ones", t.x.about(1, 0) + " " + t.x.about(1, 1) + " " + t.x.about(1, 2), "0 0 1");
        int none = FieldPacker.NONE;
        Trial.due("what 3", t.x.about(0, 3), none);
        Trial.due("what -1", t.x.about(0, -1), none);
        for (int what = 0; what < 3; what++) {
            Trial.due("field 2", t.x.about(2, what), none);
            Trial.due("field -1", t.x.about(-1, what), none);
        }
    }

    private static void byteOf() {
        Trial t = new Trial();
        t.field("a\u0080", "\u00ffb");
        Trial.due("name", t.x.byteOf(0, 0, 0) + " " + t.x.byteOf(0, 0, 1), "97 128");
        Trial.due("value", t.x.byteOf(0, 1, 0) + " " + t.x.byteOf(0, 1, 1), "255 98");
        int[][] none = {{0, 0, 2}, {0, 1, 2}, {0, 0, -1}, {0, 2, 0}, {0, -1, 0}, {1, 0, 0}, {-1, 0, 0}};
        for (int[] a : none) {
            Trial.due("byteOf none", t.x.byteOf(a[0], a[1], a[2]), FieldPacker.NONE);
        }
    }

    private static void table() {
        Trial t = new Trial();
        t.field("abc", "d").field("e", "");
        t.pack();
        Trial.due("entries", t.x.table(0, 0), 2);
        Trial.due("sizes", t.x.table(0, 1), 36 + 33);
        Trial.due("limit", t.x.table(0, 2), 256);
        Trial.due("other side", t.x.table(1, 0) + " " + t.x.table(1, 1) + " " + t.x.table(1, 2), "0 0 256");
        int[][] none = {{0, 3}, {0, -1}, {1, 3}, {2, 0}, {-1, 0}, {2, 2}};
        for (int[] a : none) {
            Trial.due("table none", t.x.table(a[0], a[1]), FieldPacker.NONE);
        }
    }

    private static void entry() {
        Trial t = new Trial();
        t.field("abc", "d").field("e", "");
        t.pack();
        Trial.due("newest", t.x.entry(0, 0), 33);
        Trial.due("oldest", t.x.entry(0, 1), 36);
        int[][] none = {{0, 2}, {0, -1}, {1, 0}, {2, 0}, {-1, 0}, {0, Integer.MAX_VALUE}};
        for (int[] a : none) {
            Trial.due("entry none", t.x.entry(a[0], a[1]), FieldPacker.NONE);
        }
        t.limit(33);
        Trial.due("gone", t.x.entry(0, 1), FieldPacker.NONE);
    }

    private static void entryByte() {
        Trial t = new Trial();
        t.field("ab", "\u00fe").field("e", "");
        t.pack();
        t.around();
        for (int side = 0; side < 2; side++) {
            Trial.due("name", t.x.entryByte(side, 1, 0, 0) + " " + t.x.entryByte(side, 1, 0, 1), "97 98");
            Trial.due("value", t.x.entryByte(side, 1, 1, 0), 254);
            Trial.due("newest", t.x.entryByte(side, 0, 0, 0), 101);
        }
        int[][] none = {{0, 1, 0, 2}, {0, 1, 1, 1}, {0, 0, 1, 0}, {0, 1, 0, -1}, {0, 1, 2, 0}, {0, 1, -1, 0},
            {0, 2, 0, 0}, {0, -1, 0, 0}, {2, 0, 0, 0}, {-1, 0, 0, 0}};
        for (int[] a : none) {
            Trial.due("entryByte none", t.x.entryByte(a[0], a[1], a[2], a[3]), FieldPacker.NONE);
        }
    }

    private static void count() {
        Trial t = new Trial();
        t.fixed("f", "x").fixed("f", "y").field("a", "1").secret("b", "2").field("c", "3").type("typed");
        t.pack();
        t.pack();
        t.load("818283");
        String[] want = {"3", "2", "5", "3", "7", "2", "0", "-1"};
        for (int what = 0; what < want.length; what++) {
            Trial.due("count " + what, Integer.toString(t.x.count(what)), want[what]);
        }
        Trial.due("count -1", t.x.count(-1), FieldPacker.NONE);
        Trial.due("a fault", t.x.unpack(), 2);
        Trial.due("loaded then", t.x.count(3), 0);
        Trial.due("not counted", t.x.count(6), 0);
        Trial.due("well", t.unpack("81"), "0 -1");
        Trial.due("counted", t.x.count(6), 1);
        Trial.due("empty one", t.x.unpack(), 0);
        Trial.due("counted too", t.x.count(6), 2);
        Trial.due("packed still", t.x.count(5), 2);
    }

    private static void check() {
        Trial t = new Trial();
        t.limit(100).field("a", "1").field("b", "2").field("c", "3").field("d", Trial.many("x", 90));
        t.pack();
        Trial.due("check packed", t.x.check(), 1);
        t.around();
        Trial.due("check unpacked", t.x.check(), 1);
        t.limit(40);
        Trial.due("check limited", t.x.check(), 1);
        t.unpack("20");
        Trial.due("check limited there", t.x.check(), 1);
        t.unpack("ff");
        Trial.due("check after a fault", t.x.check(), 1);
    }
}
