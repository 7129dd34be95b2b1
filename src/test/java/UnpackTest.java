/** Promises 12 and 13: what blocks are unpacked as, every fault and which of two comes first. */
public final class UnpackTest {
    public static void main(String[] args) {
        emptyBlock();
        everyKind();
        limits();
        entriesTooLarge();
        mostEntries();
        numbersInManyBytes();
        bytesEnd();
        places();
        wrongLimits();
        wrongNumbers();
        longTexts();
        tightEnds();
        manyFields();
        faultsChangeNothing();
        Trial.end();
    }

    private static Trial trial() {
        return new Trial().fixed("n", "v").fixed("m", "w");
    }

    private static void due(String hex, String want) {
        Trial.due("unpack " + hex, trial().unpack(hex), want);
    }

    private static void dueList(String hex, String want) {
        Trial t = trial();
        Trial.due("unpack " + hex, t.unpack(hex) + " " + t.list(), "0 -1 " + want);
    }

    private static void emptyBlock() {
        Trial t = trial().field("a", "1");
        Trial.due("nothing loaded", t.unpack(""), "0 -1");
        Trial.due("no fields then", t.x.count(0), 0);
    }

    private static void everyKind() {
        Trial t = trial();
        String block = "81" + "4001610162" + "430163" + "1001780179" + "11017a" + "0001700171" + "020172" + "84";
        Trial.due("every kind", t.unpack(block), "0 -1");
        Trial.due("fields", t.list(), "n=v a=b a=c *x=y *n=z p=q m=r a=b");
        Trial.due("table", t.table(1), "a=c a=b 68/256");
        Trial.due("packing side as it was", t.table(0), "0/256");
        t.unpack("82");
        Trial.due("a new list each time", t.list(), "m=w");
        Trial.due("table stays", t.table(1), "a=c a=b 68/256");
        dueList("41" + "825295", "n=aaa");
        dueList("40" + "825295" + "825295", "aaa=aaa");
    }

    private static void limits() {
        Trial t = trial();
        t.unpack("4001610162" + "4001630164" + "4001650166");
        Trial.due("three", t.table(1), "e=f c=d a=b 102/256");
        Trial.due("less for an entry", t.unpack("3f46" + "84"), "0 -1");
        Trial.due("one has gone", t.table(1), "e=f c=d 68/101");
        Trial.due("fields behind the limit", t.list(), "c=d");
        Trial.due("many limits", t.unpack("20" + "3fe11f" + "3f00" + "3fe11f"), "0 -1");
        Trial.due("all have gone", t.table(1), "0/4096");
        Trial.due("entries over it are no places", trial().unpack("4001610162" + "83"), "0 -1");
        t.unpack("4001610162");
        Trial.due("gone by the block's own limit", t.unpack("20" + "83"), "2 0");
        Trial.due("and back with the fault", t.table(1), "a=b 34/4096");
    }

    private static void entriesTooLarge() {
        Trial t = trial();
        t.unpack("4001610162" + "4001630164");
        Trial.due("over the limit by itself", t.unpack("3f25" + "84" + "4324" + Trial.many("41", 36)), "0 -1");
        Trial.due("all go", t.table(1), "0/68");
        Trial.due("but it is a field", t.list(), "a=b c=" + Trial.many("A", 36));
        t.unpack("4001610162");
        Trial.due("as large as the limit", t.unpack("4323" + Trial.many("41", 35)), "0 -1");
        Trial.due("it alone", t.table(1), "a=" + Trial.many("A", 35) + " 68/68");
    }

    /** Entries of 32 alone, the same one over and over: 128 of them fill the largest table. */
    private static void mostEntries() {
        Trial t = trial();
        t.unpack("3fe11f" + Trial.many("400000", 60));
        t.unpack(Trial.many("400000", 60));
        t.unpack(Trial.many("400000", 7));
        Trial.due("127", t.x.table(1, 0) + " " + t.x.table(1, 1), "127 4064");
        t.unpack("4001610162");
        Trial.due("one goes for one of 34", t.x.table(1, 0) + " " + t.x.table(1, 1), "127 4066");
        Trial.due("the newest", t.x.entry(1, 0) + " " + t.x.entry(1, 126) + " " + t.x.entry(1, 127), "34 32 -1");
        t.unpack("20");
        t.unpack("3fe11f" + Trial.many("400000", 60));
        t.unpack(Trial.many("400000", 60));
        t.unpack(Trial.many("400000", 8));
        Trial.due("128", t.x.table(1, 0) + " " + t.x.table(1, 1), "128 4096");
        t.unpack("400000");
        Trial.due("still 128", t.x.table(1, 0) + " " + t.x.entry(1, 127) + " " + t.x.check(), "128 32 1");
        Trial.due("the last place", t.unpack("ff03") + " " + t.unpack("ff04"), "0 -1 2 0");
    }

    private static void numbersInManyBytes() {
        dueList("41" + "7f00" + Trial.many("41", 127), "n=" + Trial.many("A", 127));
        dueList("41" + "7f808000" + Trial.many("41", 127), "n=" + Trial.many("A", 127));
        dueList("41" + "7f80808000" + Trial.many("41", 127), "n=" + Trial.many("A", 127));
        dueList("41" + "7fc900" + Trial.many("41", 200), "n=" + Trial.many("A", 200));
        Trial t = trial();
        Trial.due("limit in four more bytes", t.unpack("3fe19f8000"), "0 -1");
        Trial.due("its number", t.x.table(1, 2), 4096);
    }

    private static void bytesEnd() {
        String[] blocks = {"ff", "ff80", "ff808080", "40", "4001", "400161", "40016101", "4002610161", "7f", "7f80",
            "3f", "3f80", "10", "1001", "100161", "1f", "00", "0001", "0f", "41", "4101", "4181", "418552945294",
            "417f", "41ff", "41ff00", "417fc8", "41c8", "41ffffff00"};
        for (String block : blocks) {
            due(block, "1 0");
            due("81" + block, "1 1");
        }
        due("818181" + "0101", "1 3");
    }

    private static void places() {
        due("80", "2 0");
        due("83", "2 0");
        due("82", "0 -1");
        due("ff00", "2 0");
        due("43", "2 0");
        due("7f00", "2 0");
        due("1301", "2 0");
        due("1f00ff", "2 0");
        due("03", "2 0");
        due("0f00", "2 0");
        due("4001610162" + "83" + "84", "2 2");
        due("1001610162" + "83", "2 1");
        due("0001610162" + "83", "2 1");
    }

    private static void wrongLimits() {
        due("3fe21f", "3 0");
        due("20" + "3fe21f", "3 0");
        due("81" + "20", "3 1");
        due("8181" + "3f00", "3 2");
        due("81" + "3f", "1 1");
        due("81" + "3f80", "1 1");
        due("81" + "3f80808080", "4 1");
        due("3fffff7f", "4 0");
        due("3f828d06", "4 0");
        due("3f818d06", "3 0");
        due("3f80808080", "4 0");
    }

    private static void wrongNumbers() {
        // 100000 and 100001, less 127, 63, 15
        due("ffa18c06", "2 0");
        due("ffa28c06", "4 0");
        due("7fe18c06", "2 0");
        due("7fe28c06", "4 0");
        due("1f918d06", "2 0");
        due("1f928d06", "4 0");
        due("0f918d06", "2 0");
        due("0f928d06", "4 0");
        due("41" + "7fa18c06", "5 0");
        due("41" + "7fa28c06", "4 0");
        due("41" + "ffa18c06", "1 0");
        due("41" + "ffa28c06", "4 0");
        due("ffffffff7f", "4 0");
        due("ff80808080", "4 0");
        due("ffffffffff", "4 0");
        due("ff8080808000", "4 0");
        due("ffffffff", "1 0");
        due("ff80808001", "4 0");
        due("ff80808000", "2 0");
        due("40" + "7f80808080", "4 0");
        due("81" + "40" + "0161" + "ff80808080", "4 1");
    }

    private static void longTexts() {
        due("41" + "7f49" + Trial.many("41", 200), "0 -1");
        due("41" + "7f4a" + Trial.many("41", 201), "5 0");
        due("41" + "7f4a", "5 0");
        due("40" + "7f4a", "5 0");
        due("41" + "7f49", "1 0");
        due("41" + "fd" + Trial.many("00", 125), "0 -1");
        due("41" + "fe" + Trial.many("00", 126), "5 0");
        due("41" + "fe" + Trial.many("00", 125), "1 0");
        due("41" + "fe" + Trial.many("00", 125) + "ff", "6 0");
        due("41" + "fe" + Trial.many("00", 125) + "f8", "6 0");
        due("41" + "fe" + Trial.many("00", 125) + "f0", "5 0");
        due("41" + "ff05" + Trial.many("ff", 132), "0 -1");
        due("81" + "40" + "fe" + Trial.many("00", 126), "5 1");
        due("41" + "ff00" + Trial.many("00", 125) + "f800", "5 0");
    }

    private static void tightEnds() {
        dueList("41" + "80", "n=");
        dueList("41" + "82" + "fa0f", "n=A");
        due("41" + "81" + "ff", "6 0");
        due("41" + "81" + "f8", "6 0");
        dueList("41" + "81" + "57", "n=a");
        due("41" + "81" + "56", "6 0");
        due("41" + "81" + "53", "6 0");
        dueList("41" + "82" + "5295", "n=aaa");
        due("41" + "82" + "5294", "6 0");
        dueList("41" + "82" + "52bf", "n=aa");
        due("41" + "82" + "52be", "6 0");
        due("41" + "82" + "57ff", "6 0");
        dueList("41" + "84" + "5294a57f", "n=aaaaa");
        due("41" + "84" + "5294a57e", "6 0");
        due("41" + "84" + "5294afff", "6 0");
        dueList("41" + "85" + "5294a5294a", "n=aaaaaaaa");
        due("40" + "81" + "ff" + "ff", "6 0");
        due("81" + "10" + "0161" + "81ff", "6 1");
    }

    private static void manyFields() {
        due(Trial.many("81", 60), "0 -1");
        due(Trial.many("81", 61), "7 60");
        due(Trial.many("81", 60) + "80", "7 60");
        due(Trial.many("81", 60) + "ff", "7 60");
        due(Trial.many("81", 60) + "40", "7 60");
        due(Trial.many("81", 60) + "00", "7 60");
        due(Trial.many("81", 60) + "1f", "7 60");
        due(Trial.many("81", 60) + "20", "3 60");
        due(Trial.many("81", 60) + "3f", "1 60");
        due(Trial.many("81", 60) + "3f80808080", "4 60");
        due(Trial.many("81", 59) + "80", "2 59");
    }

    private static void faultsChangeNothing() {
        String[] faults = {"ff", "80", "81" + "20", "ff80808080", "417f4a", "4181ff", Trial.many("81", 61)};
        Trial t = trial().field("q", "1").secret("r", "2");
        t.unpack("4001610162" + "1001630164");
        for (int i = 0; i < faults.length; i++) {
            String before = "20" + "3f8001" + "4001780179" + "4001780179";
            String hex = i == 6 ? faults[i] : before + faults[i];
            String place = i == 6 ? " 60" : i == 2 ? " 3" : " 2";
            Trial.due("fault " + (i + 1), t.unpack(hex), (i + 1) + place);
            Trial.due("list stays", t.list(), "a=b *c=d");
            Trial.due("table stays", t.table(1), "a=b 34/256");
            Trial.due("not counted", t.x.count(6), 1);
            Trial.due("loaded bytes are none", t.x.count(3), 0);
        }
        Trial.due("well again", t.unpack("83") + " " + t.list(), "0 -1 a=b");
    }
}
