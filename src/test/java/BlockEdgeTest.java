/** Promises 7 to 13: each sentence that names a boundary case, in the document's order. */
public final class BlockEdgeTest {
    private static final int NONE = FieldPacker.NONE;
    private static final int FULL = FieldPacker.FULL;

    public static void main(String[] args) {
        limitFromTheNextBlockOn();
        limitOfTheTableAtOnce();
        limitOutsideItsBounds();
        packAnEmptyList();
        packSixThousand();
        packWithTheLastByteOfEachKind();
        packTooLongDoesNothing();
        packBehindOneTooLong();
        packedOfTheLatestBlock();
        packedOfNone();
        loadTakesTheLowestBytes();
        loadWithAWrongNumberOfBytes();
        loadOverSixThousand();
        loopOfTheLatestBlock();
        loopInPlaceOfOthers();
        unpackTakesAllThatIsLoaded();
        unpackPutsTheList();
        placeOfTheFault();
        placeWhenThereIsNone();
        Trial.end();
    }

    /** A list whose block has so many bytes, 5920 to 6046: 29 fields of 204, and one of the rest. */
    private static Trial blockOf(Trial t, int bytes) {
        t.name(Trial.many("Z", 200));
        for (int i = 0; i < 29; i++) {
            t.x.field(1);
        }
        return t.secret("Y", Trial.many("X", bytes - 5920));
    }

    /** Entries on the packing side, a limit told, others since, a list, and typed and loaded bytes. */
    private static void muchDone(Trial t) {
        t.fixed("f", "x").field("a", "1").field("b", "2").limit(200);
        t.pack();
        t.limit(150).limit(180).drop().field("c", "3").secret("d", "4").type("typed").load("8180");
    }

    private static void limitFromTheNextBlockOn() {
        Trial.holds("promise 7", "The limit of the packing side from the next block on");
        for (int n : new int[] {0, 1, 255, 257, 4095, 4096}) {
            Trial t = new Trial();
            Trial.due("limit " + n, t.x.limit(n), 1);
            Trial.due("no block by itself", t.x.count(5) + " " + t.x.count(4), "0 0");
            t.pack();
            t.around();
            Trial.due("limits", t.x.table(0, 2) + " " + t.x.table(1, 2), n + " " + n);
            Trial.due("told once", t.x.pack(), 0);
        }
        Trial t = new Trial();
        Trial.due("as it was", t.x.limit(256) + " " + t.x.pack(), "1 0");
        t.field("a", "1").limit(34);
        Trial.due("a field as large as the new one", t.pack(), "3f03" + "4001610131");
        t.drop().field("b", "2").limit(33);
        Trial.due("a field larger than the new one", t.pack(), "3f02" + "0001620132");
    }

    private static void limitOfTheTableAtOnce() {
        Trial.holds("promise 7", "and of its table at once");
        Trial t = new Trial().field("a", "1").field("b", "22").field("c", "333");
        t.pack();
        t.around();
        String[][] steps = {{"4096", "c=333 b=22 a=1 105/4096"}, {"105", "c=333 b=22 a=1 105/105"},
            {"104", "c=333 b=22 71/104"}, {"71", "c=333 b=22 71/71"}, {"70", "c=333 36/70"}, {"36", "c=333 36/36"},
            {"35", "0/35"}, {"0", "0/0"}, {"4096", "0/4096"}};
        for (String[] step : steps) {
            Trial.due("limit " + step[0], t.x.limit(Integer.parseInt(step[0])), 1);
            Trial.due("table", t.table(0), step[1]);
        }
        Trial.due("unpacking side", t.table(1), "c=333 b=22 a=1 105/256");
    }

    private static void limitOutsideItsBounds() {
        Trial.holds("promise 7", "0, and nothing is done, when it is not 0 .. 4096");
        Trial.due("the least", new Trial().x.limit(0), 1);
        Trial.due("the largest", new Trial().x.limit(4096), 1);
        for (int n : new int[] {-1, 4097, -2, 8192, 65536, Integer.MIN_VALUE, Integer.MAX_VALUE}) {
            Twins.dueNothing("limit " + n, BlockEdgeTest::muchDone, x -> x.limit(n), 0);
        }
        Twins.dueNothing("limit -1 of a new one", t -> t.field("a", "1"), x -> x.limit(-1), 0);
    }

    private static void packAnEmptyList() {
        Trial.holds("promise 8", "Packs the list as the next block: how many bytes.");
        Trial t = new Trial();
        Trial.due("empty", t.x.pack() + " " + t.x.count(5), "0 1");
        Trial.due("empty again", t.x.pack() + " " + t.x.count(5), "0 2");
        Trial.due("around", t.around() + " " + t.x.count(0), "0 -1 0");
        t.field("", "");
        Trial.due("one empty field", t.pack(), "400000");
        Trial.due("the list stays", t.x.count(0) + " " + t.pack(), "1 81");
        t.drop();
        Trial.due("empty behind others", t.x.pack() + " " + t.x.packed(0) + " " + t.x.loop(), "0 -1 0");
    }

    private static void packSixThousand() {
        Trial.holds("promise 8", "FULL, and nothing is done, when it would be more than 6000.");
        for (int bytes = 5997; bytes <= 6003; bytes++) {
            Trial t = blockOf(new Trial(), bytes);
            Trial.due("pack " + bytes, t.x.pack(), bytes <= 6000 ? bytes : FULL);
            Trial.due("packed latest", t.x.count(4) + " " + t.x.count(5), bytes <= 6000 ? bytes + " 1" : "0 0");
        }
        Trial t = blockOf(new Trial(), 6000);
        t.x.pack();
        Trial.due("around", t.around() + " " + t.x.count(0), "0 -1 30");
        Trial.due("last byte", t.x.about(29, 1) + " " + t.x.byteOf(29, 1, 79), "80 88");
        Trial large = new Trial().name(Trial.many("Z", 200));
        for (int i = 0; i < 60; i++) {
            large.x.field(1);
        }
        Trial.due("pack 12240", large.x.pack(), FULL);
    }

    /** The byte that is one too many is a whole field, a number's further byte, a tight text's last, a limit's. */
    private static void packWithTheLastByteOfEachKind() {
        Trial.holds("promise 8", "FULL, and nothing is done, when it would be more than 6000.");
        Trial whole = new Trial().fixed("w", "1");
        duePacked(blockOf(whole, 5999).field("w", "1"), 6000);
        whole = new Trial().fixed("w", "1");
        duePacked(blockOf(whole, 6000).field("w", "1"), FULL);
        duePacked(blockOf(new Trial(), 5992).secret("", "aaa").secret("", ""), 6000);
        duePacked(blockOf(new Trial(), 5995).secret("", "aaa"), 6000);
        duePacked(blockOf(new Trial(), 5996).secret("", "aaa"), FULL);
        duePacked(blockOf(new Trial(), 5999).limit(30), 6000);
        duePacked(blockOf(new Trial(), 5999).limit(31), FULL);
        duePacked(blockOf(new Trial(), 5998).limit(31), 6000);
        duePacked(blockOf(new Trial(), 5997).limit(20).limit(31), 6000);
        duePacked(blockOf(new Trial(), 5998).limit(20).limit(31), FULL);
        duePacked(blockOf(new Trial(), 5997).field("", ""), 6000);
        duePacked(blockOf(new Trial(), 5998).field("", ""), FULL);
        duePacked(fifteenFixed(5997), 6000);
        duePacked(fifteenFixed(5998), FULL);
    }

    private static void duePacked(Trial t, int want) {
        Trial.due("pack", t.x.pack(), want);
    }

    /** The last field's name is at place 15, which takes a second byte in 4 bits. */
    private static Trial fifteenFixed(int bytes) {
        Trial t = new Trial();
        for (int i = 0; i < 14; i++) {
            t.x.fixed();
        }
        t.fixed("q", "");
        return blockOf(t, bytes).secret("q", "");
    }

    private static void packTooLongDoesNothing() {
        Trial.holds("promise 8", "FULL, and nothing is done, when it would be more than 6000.");
        Twins.dueNothing("too long", t -> {
            muchDone(t);
            t.x.name();
            blockOf(t.field("new", "one").field("b", "2").field("newer", "one"), 6001);
        }, Counted::pack, FULL);
        Twins.dueNothing("too long, all entries would go", t -> {
            muchDone(t);
            t.x.name();
            blockOf(t.drop().limit(80).field(Trial.many("N", 40), ""), 6001).type("t").load("81");
        }, Counted::pack, FULL);
    }

    private static void packBehindOneTooLong() {
        Trial.holds("promise 8", "FULL, and nothing is done, when it would be more than 6000.");
        Trial t = blockOf(new Trial().field("a", "1").limit(20).limit(99), 6001);
        Trial.due("too long", t.x.pack(), FULL);
        Trial.due("too long still", t.x.pack(), FULL);
        Trial.due("no block", t.x.count(4) + " " + t.x.count(5) + " " + t.x.packed(0) + " " + t.x.loop(), "0 0 -1 0");
        Trial.due("nothing put in", t.table(0), "0/99");
        Trial.due("the list stays", t.x.drop(), 31);
        t.field("a", "1");
        Trial.due("what fits, limits told now", t.pack(), "34" + "3f44" + "4001610131");
    }

    private static void packedOfTheLatestBlock() {
        Trial.holds("promise 9", "Byte k of the block that was packed latest");
        Trial t = new Trial().field("Z", "\u00ff");
        t.x.pack();
        int[] want = {0x40, 1, 'Z', 1, 255, NONE};
        for (int k = 0; k < want.length; k++) {
            Trial.due("byte " + k, t.x.packed(k), want[k]);
        }
        t.x.pack();
        Trial.due("a shorter block", t.x.packed(0) + " " + t.x.packed(1) + " " + t.x.packed(4), "129 -1 -1");
        blockOf(t.drop(), 6000).x.pack();
        Trial.due("the largest", t.x.packed(0) + " " + t.x.packed(5999) + " " + t.x.packed(6000), "16 88 -1");
        t.secret("", "");
        Trial.due("too long", t.x.pack(), FULL);
        Trial.due("the one before stays", t.x.packed(0) + " " + t.x.packed(5999) + " " + t.x.packed(6000), "16 88 -1");
        t.unpack("80");
        t.load("99");
        Trial.due("unpacking leaves it", t.x.packed(0) + " " + t.x.packed(5999), "16 88");
        t.drop().x.pack();
        Trial.due("an empty block", t.x.packed(0) + " " + t.x.packed(5999), "-1 -1");
    }

    private static void packedOfNone() {
        Trial.holds("promise 9", "NONE when there is none");
        Trial t = new Trial();
        int[] far = {0, -1, 1, 5999, 6000, Integer.MIN_VALUE, Integer.MAX_VALUE};
        for (int k : far) {
            Trial.due("before any block, byte " + k, t.x.packed(k), NONE);
        }
        t.field("a", "1").x.pack();
        for (int k : far) {
            Trial.due("byte " + k, t.x.packed(k), k == 0 ? 0x40 : k == 1 ? 1 : NONE);
        }
        Trial.due("the last and behind it", t.x.packed(4) + " " + t.x.packed(5), "49 -1");
    }

    private static void loadTakesTheLowestBytes() {
        Trial.holds("promise 10", "Bytes to be unpacked, behind others, like type()");
        for (int n = 1; n <= 8; n++) {
            Trial t = new Trial();
            Trial.due("load", t.x.load(0xffff100000L + n, 3), 3);
            Trial.due("behind", t.x.load(0xf1f2f3f4f5f6f7f8L, n), 3 + n);
            Trial.due("loaded", t.x.count(3), 3 + n);
            t.x.unpack();
            Trial.due("them", t.list(), "*=" + "\u00f1\u00f2\u00f3\u00f4\u00f5\u00f6\u00f7\u00f8".substring(8 - n));
        }
        Trial t = new Trial();
        Trial.due("the least number", t.x.load(0x100008L, 3) + " " + t.x.load(Long.MIN_VALUE, 8), "3 11");
        Trial.due("its highest byte first", t.x.unpack() + " " + t.x.byteOf(0, 1, 0) + " " + t.x.byteOf(0, 1, 7), "0 128 0");
    }

    private static void loadWithAWrongNumberOfBytes() {
        Trial.holds("promise 10", "like type()");
        for (int n : new int[] {0, 9, -1, -8, 256, 257, Integer.MIN_VALUE, Integer.MAX_VALUE}) {
            Twins.dueNothing("load " + n, t -> t.fixed("f", "x").load("8181"), x -> x.load(-1L, n), NONE);
            Twins.dueNothing("load " + n + " of none", t -> t.fixed("f", "x"), x -> x.load(-1L, n), NONE);
        }
    }

    /** 512 calls load no more than 4096 bytes by themselves, so a block is looped first. */
    private static void loadOverSixThousand() {
        Trial.holds("promise 10", "at most 6000");
        for (int had = 5992; had <= 6000; had++) {
            for (int n = 1; n <= 8; n++) {
                Trial t = blockOf(new Trial(), had);
                t.x.pack();
                t.x.loop();
                boolean fits = had + n <= 6000;
                Trial.due(n + " behind " + had, t.x.load(-1L, n), fits ? had + n : NONE);
                Trial.due("loaded then", t.x.count(3), fits ? had + n : had);
            }
        }
        Twins.dueNothing("a 6001st", t -> {
            blockOf(t, 6000).x.pack();
            t.x.loop();
        }, x -> x.load(0x81, 1), NONE);
        Twins.dueNothing("5993 and 8", t -> {
            blockOf(t, 5993).x.pack();
            t.x.loop();
        }, x -> x.load(0x10000010000141L, 8), NONE);
        Trial t = blockOf(new Trial(), 5993);
        t.x.pack();
        t.x.loop();
        Trial.due("5993 and 7", t.x.load(0x10000010000141L, 7), 6000);
        Trial.due("all of them", t.x.unpack() + " " + t.x.count(0) + " " + t.x.byteOf(31, 1, 0), "0 32 65");
        Trial.due("anew", t.x.load(0x81, 1) + " " + t.x.count(3), "1 1");
    }

    private static void loopOfTheLatestBlock() {
        Trial.holds("promise 11", "The block that was packed latest is to be unpacked");
        Trial t = new Trial();
        Trial.due("before any block", t.x.loop() + " " + t.x.count(3), "0 0");
        t.x.pack();
        Trial.due("an empty block", t.x.loop() + " " + t.x.count(3), "0 0");
        t.field("a", "1").x.pack();
        Trial.due("loop", t.x.loop() + " " + t.x.count(3), "5 5");
        t.x.pack();
        Trial.due("the next block leaves it", t.x.count(3), 5);
        Trial.due("it", t.x.unpack() + " " + t.list() + " " + t.table(1), "0 a=1 a=1 34/256");
        Trial.due("the latest", t.x.loop() + " " + t.x.unpack() + " " + t.list(), "1 0 a=1");
        blockOf(t.drop(), 6000).x.pack();
        Trial.due("the largest", t.x.loop() + " " + t.x.count(3), "6000 6000");
        t.secret("", "");
        t.x.pack();
        Trial.due("the one before what was too long", t.x.loop() + " " + t.x.unpack() + " " + t.x.count(0), "6000 0 30");
        t.drop().x.pack();
        Trial.due("an empty block behind it", t.x.loop() + " " + t.x.unpack() + " " + t.x.count(0), "0 0 0");
    }

    private static void loopInPlaceOfOthers() {
        Trial.holds("promise 11", "in place of others: how many bytes");
        Trial t = new Trial().field("a", "1").load("80808080808080808080");
        t.x.pack();
        Trial.due("in place of more", t.x.loop() + " " + t.x.count(3), "5 5");
        Trial.due("in place of itself", t.x.loop() + " " + t.x.count(3), "5 5");
        Trial.due("others behind it", t.x.load(0x8181, 2), 7);
        Trial.due("all", t.x.unpack() + " " + t.list(), "0 a=1 a=1 a=1");
        t.load("81");
        Trial.due("in place of less", t.x.loop() + " " + t.x.unpack() + " " + t.list(), "5 0 a=1");
        Trial empty = new Trial().load("80");
        empty.x.pack();
        Trial.due("none in place of others", empty.x.loop() + " " + empty.x.unpack(), "0 0");
    }

    private static void unpackTakesAllThatIsLoaded() {
        Trial.holds("promise 12", "Unpacks the loaded bytes, which are none then");
        Trial t = new Trial().fixed("f", "x");
        t.load("8181");
        Trial.due("well", t.x.unpack() + " " + t.x.count(3), "0 0");
        t.load("8081");
        Trial.due("a fault, with bytes behind it", t.x.unpack() + " " + t.x.count(3), "2 0");
        t.load("81");
        Trial.due("nothing of them comes again", t.x.unpack() + " " + t.list(), "0 f=x");
        Trial.due("nothing loaded", t.x.unpack() + " " + t.x.count(3) + " " + t.x.count(6), "0 0 3");
        Trial.due("loaded anew", t.x.load(0x81, 1), 1);
        blockOf(t.drop(), 6000).x.pack();
        t.x.loop();
        Trial.due("6000", t.x.unpack() + " " + t.x.count(3) + " " + t.x.count(0), "0 0 30");
    }

    private static void unpackPutsTheList() {
        Trial.holds("promise 12", "0, and the list has its fields; or the fault");
        Trial t = new Trial().fixed("f", "x").field("a", "1").field("b", "2");
        Trial.due("one in place of two", t.unpack("81") + " " + t.list(), "0 -1 f=x");
        Trial.due("a fault", t.unpack("818180") + " " + t.list(), "2 2 f=x");
        Trial.due("60", t.unpack(Trial.many("81", 60)) + " " + t.x.count(0), "0 -1 60");
        Trial.due("61", t.unpack(Trial.many("81", 61)) + " " + t.x.count(0), "7 60 60");
        Trial.due("limits alone", t.unpack("3f00") + " " + t.x.count(0), "0 -1 0");
        t.field("a", "1");
        Trial.due("none", t.unpack("") + " " + t.x.count(0), "0 -1 0");
    }

    private static void placeOfTheFault() {
        Trial.holds("promise 13", "The number, from 0, of the field of the latest unpack() with its fault "
            + "(also of one that would have come)");
        for (int before = 0; before < 60; before++) {
            String fields = Trial.many("81", before);
            Trial.due("in field " + before, new Trial().fixed("f", "x").unpack(fields + "80"), "2 " + before);
        }
        String most = Trial.many("81", 60);
        Trial.due("of a 61st", new Trial().fixed("f", "x").unpack(most + "81"), "7 60");
        Trial.due("of one that would have come behind 60", new Trial().fixed("f", "x").unpack(most + "20"), "3 60");
        Trial.due("a limit behind two", new Trial().fixed("f", "x").unpack("818120"), "3 2");
        Trial.due("a limit before all", new Trial().unpack("3fe21f"), "3 0");
        Trial.due("limits are no fields", new Trial().fixed("f", "x").unpack("20202080"), "2 0");
        Trial.due("limits are no fields", new Trial().fixed("f", "x").unpack("20208180"), "2 1");
        Trial.due("in a value", new Trial().fixed("f", "x").unpack("8181" + "400161" + "05"), "1 2");
    }

    private static void placeWhenThereIsNone() {
        Trial.holds("promise 13", "NONE when it had none");
        Trial t = new Trial().fixed("f", "x");
        Trial.due("before any", t.x.place(), NONE);
        Trial.due("well", t.unpack("81"), "0 -1");
        Trial.due("a fault", t.unpack("8180"), "2 1");
        t.field("a", "1").load("8181");
        t.x.pack();
        t.x.loop();
        t.drop();
        Trial.due("other calls leave it", t.x.place(), 1);
        Trial.due("well again", t.x.unpack() + " " + t.x.place(), "0 -1");
        Trial.due("an earlier fault", t.unpack("818180"), "2 2");
        Trial.due("the latest", t.unpack("80"), "2 0");
        Trial.due("nothing loaded", t.unpack(""), "0 -1");
    }
}
