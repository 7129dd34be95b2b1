/** Promise 12: what blocks are unpacked as, and what a fault leaves as it was; its edges are FaultEdgeTest's. */
public final class UnpackTest {
    public static void main(String[] args) {
        emptyBlock();
        everyKind();
        limits();
        entriesTooLarge();
        mostEntries();
        numbersInManyBytes();
        faultsChangeNothing();
        Trial.end();
    }

    private static Trial trial() {
        return new Trial().fixed("n", "v").fixed("m", "w");
    }

    private static void dueList(String hex, String want) {
        Trial t = trial();
        Trial.due("unpack " + hex, t.unpack(hex) + " " + t.list(), "0 -1 " + want);
    }

    private static void emptyBlock() {
        Trial t = trial().field("a", "1");
        Trial.due("nothing loaded", t.unpack(""), "0 -1");
        Trial.due("no fields then", t.x.count(0), 0);
    }

    private static void everyKind() {
        Trial t = trial();
        String block = "81" + "4001610162" + "430163" + "1001780179" + "11017a" + "0001700171" + "020172" + "84";
        Trial.due("every kind", t.unpack(block), "0 -1");
        Trial.due("fields", t.list(), "n=v a=b a=c *x=y *n=z p=q m=r a=b");
        Trial.due("table", t.table(1), "a=c a=b 68/256");
        Trial.due("packing side as it was", t.table(0), "0/256");
        t.unpack("82");
        Trial.due("a new list each time", t.list(), "m=w");
        Trial.due("table stays", t.table(1), "a=c a=b 68/256");
        dueList("41" + "825295", "n=aaa");
        dueList("40" + "825295" + "825295", "aaa=aaa");
    }

    private static void limits() {
        Trial t = trial();
        t.unpack("4001610162" + "4001630164" + "4001650166");
        Trial.due("three", t.table(1), "e=f c=d a=b 102/256");
        Trial.due("less for an entry", t.unpack("3f46" + "84"), "0 -1");
        Trial.due("one has gone", t.table(1), "e=f c=d 68/101");
        Trial.due("fields behind the limit", t.list(), "c=d");
        Trial.due("many limits", t.unpack("20" + "3fe11f" + "3f00" + "3fe11f"), "0 -1");
        Trial.due("all have gone", t.table(1), "0/4096");
        Trial.due("entries over it are no places", trial().unpack("4001610162" + "83"), "0 -1");
        t.unpack("4001610162");
        Trial.due("gone by the block's own limit", t.unpack("20" + "83"), "2 0");
        Trial.due("and back with the fault", t.table(1), "a=b 34/4096");
    }

    private static void entriesTooLarge() {
        Trial t = trial();
        t.unpack("4001610162" + "4001630164");
        Trial.due("over the limit by itself", t.unpack("3f25" + "84" + "4324" + Trial.many("41", 36)), "0 -1");
        Trial.due("all go", t.table(1), "0/68");
        Trial.due("but it is a field", t.list(), "a=b c=" + Trial.many("A", 36));
        t.unpack("4001610162");
        Trial.due("as large as the limit", t.unpack("4323" + Trial.many("41", 35)), "0 -1");
        Trial.due("it alone", t.table(1), "a=" + Trial.many("A", 35) + " 68/68");
    }

    /** Entries of 32 alone, the same one over and over: 128 of them fill the largest table. */
    private static void mostEntries() {
        Trial t = trial();
        t.unpack("3fe11f" + Trial.many("400000", 60));
        t.unpack(Trial.many("400000", 60));
        t.unpack(Trial.many("400000", 7));
        Trial.due("127", t.x.table(1, 0) + " " + t.x.table(1, 1), "127 4064");
        t.unpack("4001610162");
        Trial.due("one goes for one of 34", t.x.table(1, 0) + " " + t.x.table(1, 1), "127 4066");
        Trial.due("the newest", t.x.entry(1, 0) + " " + t.x.entry(1, 126) + " " + t.x.entry(1, 127), "34 32 -1");
        t.unpack("20");
        t.unpack("3fe11f" + Trial.many("400000", 60));
        t.unpack(Trial.many("400000", 60));
        t.unpack(Trial.many("400000", 8));
        Trial.due("128", t.x.table(1, 0) + " " + t.x.table(1, 1), "128 4096");
        t.unpack("400000");
        Trial.due("still 128", t.x.table(1, 0) + " " + t.x.entry(1, 127) + " " + t.x.check(), "128 32 1");
        Trial.due("the last place", t.unpack("ff03") + " " + t.unpack("ff04"), "0 -1 2 0");
    }

    private static void numbersInManyBytes() {
        dueList("41" + "7f00" + Trial.many("41", 127), "n=" + Trial.many("A", 127));
        dueList("41" + "7f808000" + Trial.many("41", 127), "n=" + Trial.many("A", 127));
        dueList("41" + "7f80808000" + Trial.many("41", 127), "n=" + Trial.many("A", 127));
        dueList("41" + "7fc900" + Trial.many("41", 200), "n=" + Trial.many("A", 200));
        Trial t = trial();
        Trial.due("limit in four more bytes", t.unpack("3fe19f8000"), "0 -1");
        Trial.due("its number", t.x.table(1, 2), 4096);
    }

    private static void faultsChangeNothing() {
        String[] faults = {"ff", "80", "81" + "20", "ff80808080", "417f4a", "4181ff", Trial.many("81", 61)};
        Trial t = trial().field("q", "1").secret("r", "2");
        t.unpack("4001610162" + "1001630164");
        for (int i = 0; i < faults.length; i++) {
            String before = "20" + "3f8001" + "4001780179" + "4001780179";
            String hex = i == 6 ? faults[i] : before + faults[i];
            String place = i == 6 ? " 60" : i == 2 ? " 3" : " 2";
            Trial.due("fault " + (i + 1), t.unpack(hex), (i + 1) + place);
            Trial.due("list stays", t.list(), "a=b *c=d");
            Trial.due("table stays", t.table(1), "a=b 34/256");
            Trial.due("not counted", t.x.count(6), 1);
            Trial.due("loaded bytes are none", t.x.count(3), 0);
        }
        Trial.due("well again", t.unpack("83") + " " + t.list(), "0 -1 a=b");
    }
}
