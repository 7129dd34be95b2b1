/** Promises 1 to 6: each sentence that names a boundary case, in the document's order. */
public final class ListEdgeTest {
    private static final int NONE = FieldPacker.NONE;
    private static final int[] FAR = {Integer.MIN_VALUE, -256, 256, 257, Integer.MAX_VALUE};

    public static void main(String[] args) {
        nothingInANewObject();
        objectsAreApart();
        typeTakesTheLowestBytes();
        typeWithAWrongNumberOfBytes();
        typeOverTwoHundred();
        nameTakesAllThatIsTyped();
        nameIsForAllThatCome();
        fixedTakesAllThatIsTyped();
        fixedUpToTwenty();
        fixedAfterABlock();
        fieldTakesAllThatIsTyped();
        fieldNeitherSecretNorNot();
        fieldUpToSixty();
        dropOfNoneAndOfAll();
        dropLeavesAllElse();
        Trial.end();
    }

    private static void nothingInANewObject() {
        Trial.holds("promise 1", "No fixed entries, no fields, empty tables.");
        Trial t = new Trial();
        for (int what = 0; what < 7; what++) {
            Trial.due("count " + what, t.x.count(what), 0);
        }
        for (int side = 0; side < 2; side++) {
            Trial.due("table", t.table(side), "0/256");
            Trial.due("entry", t.x.entry(side, 0), NONE);
        }
        Trial.due("about", t.x.about(0, 0), NONE);
        Trial.due("place", t.x.place(), NONE);
        Trial.due("packed", t.x.packed(0), NONE);
        Trial.due("check", t.x.check(), 1);
        Trial.due("drop", t.x.drop(), 0);
        Trial.due("name", t.x.name(), 0);
        Trial.due("first fixed entry", t.x.fixed(), 1);
        Trial.due("first field", t.x.field(0) + " " + t.list(), "1 =");
        Trial.due("first block", new Trial().x.pack(), 0);
        Trial.due("nothing loaded", new Trial().x.unpack(), 0);
        Trial.due("a field before any name", new Trial().x.field(0), 1);
        Trial.due("whole field 1", new Trial().unpack("81"), "2 0");
        Trial.due("name 1", new Trial().unpack("4100"), "2 0");
    }

    private static void objectsAreApart() {
        Trial.holds("promise 1", "No fixed entries, no fields, empty tables.");
        Trial full = new Trial().fixed("a", "1").field("b", "2").limit(4096);
        full.pack();
        full.around();
        full.unpack("80");
        full.type("typed").load("81");
        Trial t = new Trial();
        Trial.due("the other's fixed entry", t.unpack("81"), "2 0");
        Trial.due("its counts", t.x.count(0) + t.x.count(1) + t.x.count(2) + t.x.count(3) + t.x.count(4), 0);
        Trial.due("its limit", t.table(0) + " " + t.table(1), "0/256 0/256");
        Trial.due("its place", new Trial().x.place(), NONE);
        Trial.due("its name", t.x.field(0) + " " + t.list(), "1 =");
    }

    private static void typeTakesTheLowestBytes() {
        Trial.holds("promise 2", "The n lowest bytes of a number, the highest of them first, are typed behind others");
        String all = "\u0081\u0082\u0083\u0084\u0085\u0086\u0087\u0088";
        for (int n = 1; n <= 8; n++) {
            Trial t = new Trial().type("!");
            Trial.due("type " + n, t.x.type(0x8182838485868788L, n), 1 + n);
            Trial.due("again", t.x.type(0x8182838485868788L, n), 1 + 2 * n);
            t.x.field(0);
            String lowest = all.substring(8 - n);
            Trial.due("typed", t.list(), "=!" + lowest + lowest);
        }
        dueTyped(0L, 8, "\0\0\0\0\0\0\0\0");
        dueTyped(-1L, 8, Trial.many("\u00ff", 8));
        dueTyped(-1L, 1, "\u00ff");
        dueTyped(Long.MIN_VALUE, 8, "\u0080\0\0\0\0\0\0\0");
        dueTyped(Long.MIN_VALUE, 7, "\0\0\0\0\0\0\0");
        dueTyped(Long.MAX_VALUE, 8, "\u007f" + Trial.many("\u00ff", 7));
        dueTyped(0x100L, 1, "\0");
        dueTyped(0x180000000L, 4, "\u0080\0\0\0");
        dueTyped(0x180000000L, 5, "\u0001\u0080\0\0\0");
    }

    private static void dueTyped(long bytes, int n, String want) {
        Trial t = new Trial();
        Trial.due("type " + bytes, t.x.type(bytes, n), n);
        t.x.field(0);
        Trial.due("typed", t.list(), "=" + want);
    }

    private static void typeWithAWrongNumberOfBytes() {
        Trial.holds("promise 2", "NONE, and nothing is done, when n is not 1 .. 8");
        for (int n : new int[] {0, 9, -1, -8, 10, 16}) {
            Twins.dueNothing("type " + n, t -> t.name("n").type("ab"), x -> x.type(-2L, n), NONE);
        }
        for (int n : FAR) {
            Twins.dueNothing("type " + n, t -> t.name("n").type("ab"), x -> x.type(-2L, n), NONE);
            Twins.dueNothing("type " + n, t -> t.type(Trial.many("Z", 200)), x -> x.type(-2L, n), NONE);
        }
    }

    private static void typeOverTwoHundred() {
        Trial.holds("promise 2", "or there would be more than 200");
        for (int had = 192; had <= 200; had++) {
            for (int n = 1; n <= 8; n++) {
                Trial t = new Trial().type(Trial.many("Z", had));
                boolean fits = had + n <= 200;
                Trial.due(n + " behind " + had, t.x.type(-1L, n), fits ? had + n : NONE);
                Trial.due("typed then", t.x.count(2), fits ? had + n : had);
            }
        }
        Twins.dueNothing("a 201st", t -> t.type(Trial.many("Z", 200)), x -> x.type(-1L, 1), NONE);
        Twins.dueNothing("193 and 8", t -> t.type(Trial.many("Z", 193)), x -> x.type(-1L, 8), NONE);
        Trial t = new Trial().type(Trial.many("Z", 200));
        Trial.due("name of 200", t.x.name(), 200);
        t.type(Trial.many("Y", 200));
        Trial.due("200 anew", t.x.count(2), 200);
        Trial.due("field of 200 and 200", t.x.field(0) + " " + t.x.about(0, 0) + " " + t.x.about(0, 1), "1 200 200");
        t.type(Trial.many("X", 200));
        Trial.due("200 anew behind a field", t.x.count(2) + " " + t.x.fixed(), "200 1");
        t.type(Trial.many("W", 200));
        Trial.due("200 anew behind a fixed entry", t.x.count(2) + " " + t.x.type(1, 1), "200 -1");
    }

    private static void nameTakesAllThatIsTyped() {
        Trial.holds("promise 3", "The typed bytes, which are none then");
        for (int length : new int[] {0, 1, 8, 9, 199, 200}) {
            Trial t = new Trial().type(Trial.many("n", length));
            Trial.due("name", t.x.name(), length);
            Trial.due("typed then", t.x.count(2), 0);
            Trial.due("name of none typed", t.x.name(), 0);
        }
    }

    private static void nameIsForAllThatCome() {
        Trial.holds("promise 3", "are the name of fields and fixed entries that come");
        Trial t = new Trial().field("old", "0").name("n");
        t.type("1").x.fixed();
        t.type("2").x.fixed();
        t.type("3").x.field(0);
        t.type("4").x.field(1);
        Trial.due("fields", t.list(), "old=0 n=3 *n=4");
        t.x.name();
        t.type("5").x.field(0);
        Trial.due("then an empty one", t.list(), "old=0 n=3 *n=4 =5");
        t.unpack("8182" + "430135");
        Trial.due("fixed entries", t.list() + " " + t.x.place(), "old=0 n=3 *n=4 =5 2");
        t.unpack("8182");
        Trial.due("fixed entries", t.list(), "n=1 n=2");
        t.x.field(0);
        Trial.due("an unpacked list leaves the name", t.list(), "n=1 n=2 =");
        t.name("kept").unpack("80");
        t.x.drop();
        t.x.pack();
        t.x.field(0);
        Trial.due("so do a fault, a drop and a block", t.list(), "kept=");
    }

    private static void fixedTakesAllThatIsTyped() {
        Trial.holds("promise 4", "the typed bytes, which are none then, its value: its place");
        for (int length : new int[] {0, 1, 200}) {
            Trial t = new Trial().name("n").type(Trial.many("v", length));
            Trial.due("place", t.x.fixed(), 1);
            Trial.due("typed then", t.x.count(2), 0);
            Trial.due("place of one without bytes", t.x.fixed(), 2);
            t.unpack("8182");
            Trial.due("values", t.x.about(0, 1) + " " + t.x.about(1, 1), length + " 0");
        }
    }

    /** So many fixed entries n=, all alike. */
    private static Trial fixedTimes(Trial t, int times) {
        t.name("n");
        for (int i = 0; i < times; i++) {
            t.x.fixed();
        }
        return t;
    }

    private static void fixedUpToTwenty() {
        Trial.holds("promise 4", "NONE, and nothing is done, when there are 20");
        Trial t = new Trial().name("n");
        for (int place = 1; place <= 20; place++) {
            t.type("v");
            Trial.due("fixed", t.x.fixed(), place);
            Trial.due("how many", t.x.count(1), place);
        }
        Trial.due("a 21st", t.x.fixed(), NONE);
        Trial.due("a 21st again", t.x.fixed() + " " + t.x.count(1), "-1 20");
        Trial.due("no place 21", t.unpack("95"), "2 0");
        Trial.due("place 20", t.unpack("94") + " " + t.list(), "0 -1 n=v");
        Twins.dueNothing("a 21st", t20 -> fixedTimes(t20, 20).type("more"), Counted::fixed, NONE);
        Twins.dueNothing("a 21st of none typed", t20 -> fixedTimes(t20, 20), Counted::fixed, NONE);
    }

    private static void fixedAfterABlock() {
        Trial.holds("promise 4", "or pack() or unpack() was called already (well or not, also when it was FULL)");
        Twins.dueNothing("after pack", t -> {
            t.name("n").x.pack();
            t.type("v");
        }, Counted::fixed, NONE);
        Twins.dueNothing("after FULL", t -> {
            Trial.due("FULL", tooLong(t).x.pack(), FieldPacker.FULL);
            t.type("v");
        }, Counted::fixed, NONE);
        Twins.dueNothing("after unpack", t -> {
            t.name("n").x.unpack();
            t.type("v");
        }, Counted::fixed, NONE);
        Twins.dueNothing("after a fault", t -> {
            Trial.due("fault", t.name("n").unpack("80"), "2 0");
            t.type("v");
        }, Counted::fixed, NONE);
        Trial t = new Trial().field("f", "1").limit(0).load("81");
        t.x.loop();
        t.x.drop();
        t.x.packed(0);
        t.x.place();
        t.x.check();
        Trial.due("after all other calls", t.x.fixed(), 1);
    }

    /** A list whose block has 6120 bytes. */
    private static Trial tooLong(Trial t) {
        t.name(Trial.many("Z", 200));
        for (int i = 0; i < 30; i++) {
            t.x.field(1);
        }
        return t;
    }

    private static void fieldTakesAllThatIsTyped() {
        Trial.holds("promise 5", "the typed bytes likewise its value: how many there are");
        for (int length : new int[] {0, 1, 200}) {
            Trial t = new Trial().name("n").type(Trial.many("v", length));
            Trial.due("field", t.x.field(1), 1);
            Trial.due("typed then", t.x.count(2), 0);
            Trial.due("field without bytes", t.x.field(0), 2);
            Trial.due("values", t.x.about(0, 1) + " " + t.x.about(1, 1), length + " 0");
            Trial.due("secret", t.x.about(0, 2) + " " + t.x.about(1, 2), "1 0");
        }
    }

    private static void fieldNeitherSecretNorNot() {
        Trial.holds("promise 5", "NONE, and nothing is done, when it is neither");
        for (int secret : new int[] {-1, 2, 3, -2}) {
            Twins.dueNothing("field " + secret, t -> t.field("a", "1").type("v"), x -> x.field(secret), NONE);
        }
        for (int secret : FAR) {
            Twins.dueNothing("field " + secret, t -> t.name("n").type("v"), x -> x.field(secret), NONE);
        }
    }

    private static Trial fieldTimes(Trial t, int times) {
        t.name("n");
        for (int i = 0; i < times; i++) {
            t.x.field(0);
        }
        return t;
    }

    private static void fieldUpToSixty() {
        Trial.holds("promise 5", "or there are 60");
        Trial t = new Trial().name("n");
        for (int many = 1; many <= 60; many++) {
            Trial.due("field", t.x.field(many & 1), many);
            Trial.due("how many", t.x.count(0), many);
        }
        Trial.due("a 61st", t.x.field(0), NONE);
        Trial.due("a secret 61st", t.x.field(1) + " " + t.x.count(0), "-1 60");
        Trial.due("drop", t.x.drop(), 60);
        Trial.due("anew", t.x.field(1) + " " + t.x.count(0) + " " + t.list(), "1 1 *n=");
        for (int secret = 0; secret < 2; secret++) {
            int kind = secret;
            Twins.dueNothing("a 61st", t60 -> fieldTimes(t60, 60).type("more"), x -> x.field(kind), NONE);
        }
        Trial unpacked = new Trial().fixed("n", "v");
        unpacked.unpack(Trial.many("81", 59));
        Trial.due("a 60th behind unpacked ones", unpacked.x.field(0), 60);
        Trial.due("a 61st behind unpacked ones", unpacked.x.field(0), NONE);
        unpacked.unpack(Trial.many("81", 60));
        Trial.due("a 61st behind 60 unpacked ones", unpacked.x.field(1), NONE);
        unpacked.unpack("");
        Trial.due("a first behind none unpacked", unpacked.x.field(0), 1);
    }

    private static void dropOfNoneAndOfAll() {
        Trial.holds("promise 6", "No fields in the list: how many there were.");
        for (int many : new int[] {0, 1, 59, 60}) {
            Trial t = fieldTimes(new Trial(), many);
            Trial.due("drop", t.x.drop(), many);
            Trial.due("none then", t.x.count(0) + " " + t.x.about(0, 0) + " " + t.x.byteOf(0, 0, 0), "0 -1 -1");
            Trial.due("drop again", t.x.drop(), 0);
            Trial.due("pack none", t.x.pack(), 0);
            Trial.due("field", t.x.field(0), 1);
        }
        Trial t = new Trial().fixed("n", "v");
        t.unpack("8181");
        Trial.due("unpacked ones", t.x.drop() + " " + t.x.count(0), "2 0");
        Twins.dueNothing("drop of none", none -> none.fixed("a", "1").name("b").type("c").load("81"), Counted::drop, 0);
    }

    private static void dropLeavesAllElse() {
        Trial.holds("promise 6", "No fields in the list: how many there were.");
        Trial t = new Trial().fixed("f", "x").field("a", "1");
        t.pack();
        t.around();
        t.type("t").load("81");
        t.x.drop();
        Trial.due("tables", t.table(0) + " " + t.table(1), "a=1 34/256 a=1 34/256");
        int[] want = {0, 1, 1, 1, 5, 1, 1};
        for (int what = 0; what < want.length; what++) {
            Trial.due("count " + what, t.x.count(what), want[what]);
        }
        Trial.due("block", t.block(), "4001610131");
        Trial.due("name and typed bytes", t.x.field(0) + " " + t.list(), "1 a=t");
    }
}
