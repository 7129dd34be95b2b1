/** Promise 8, and limit() as blocks tell it: what bytes a list is packed as, and what stays in the table. */
public final class PackTest {
    public static void main(String[] args) {
        emptyList();
        wholePlaces();
        namePlaces();
        manyPlaces();
        keptNamesFarBehind();
        secretFields();
        looseFields();
        oldestGoes();
        plainTexts();
        tightTexts();
        anyBytes();
        limitNumbers();
        limitsSinceTheBlockBefore();
        tooLong();
        Trial.end();
    }

    private static void emptyList() {
        Trial t = new Trial();
        Trial.due("no fields", t.pack(), "");
        Trial.due("counts", t.x.count(5), 1);
        t.field("", "");
        Trial.due("an empty field", t.pack(), "400000");
        Trial.due("the list stays", t.x.count(0), 1);
        Trial.due("again", t.pack(), "81");
        Trial.due("in the table", t.table(0), "= 32/256");
    }

    private static void wholePlaces() {
        Trial t = new Trial();
        t.fixed("A", "1").fixed("A", "1").fixed("B", "2");
        t.field("A", "1").field("B", "2").field("C", "3").field("D", "4").field("C", "3").field("D", "4");
        Trial.due("places", t.pack(), "8183" + "4001430133" + "4001440134" + "8584");
        Trial.due("table", t.table(0), "D=4 C=3 68/256");
    }

    private static void namePlaces() {
        Trial t = new Trial();
        t.fixed("A", "1").fixed("B", "2").fixed("A", "3");
        t.field("A", "9").field("B", "9").field("C", "7").field("C", "8").field("C", "9").secret("C", "7");
        Trial.due("least place", t.pack(),
            "410139" + "420139" + "4001430137" + "440138" + "440139" + "140137");
        Trial.due("table", t.table(0), "C=9 C=8 C=7 B=9 A=9 170/256");
    }

    /** Places at the edges of the 7 and 4 bits; the fixed entries come first. */
    private static void manyPlaces() {
        Trial t = new Trial();
        for (int i = 1; i <= 20; i++) {
            t.type("" + (char) i);
            t.x.name();
            t.x.fixed();
        }
        t.name("\u0001").limit(4096);
        for (int i = 0; i < 110; i++) {
            t.x.type(i + 65, 1);
            t.x.field(0);
            if (i == 54) {
                t.x.pack();
                t.x.drop();
            }
        }
        t.x.pack();
        Trial.due("110 entries", t.x.table(0, 0) + " " + t.x.table(0, 1), "110 3740");
        t.drop();
        int[] values = {65 + 109, 65 + 4, 65 + 3, 65 + 2, 65};
        for (int value : values) {
            t.x.type(value, 1);
            t.x.field(0);
        }
        Trial.due("far places", t.pack(), "95" + "fe" + "ff00" + "ff01" + "ff03");
        t.drop().secret("\u000e", "x").secret("\u000f", "y").secret("\u0014", "z");
        Trial.due("4 bits", t.pack(), "1e0178" + "1f000179" + "1f05017a");
        t.drop().limit(0).field("\u000e", "x").field("\u000f", "y").field("\u0014", "z");
        Trial.due("4 bits of loose ones", t.pack(), "20" + "0e0178" + "0f000179" + "0f05017a");
    }

    /** Places of names at the edges of the 6 bits. */
    private static void keptNamesFarBehind() {
        Trial t = new Trial();
        t.limit(4096);
        for (int i = 0; i < 64; i++) {
            t.x.type(i + 65, 1);
            t.x.name();
            t.x.field(0);
            if (i == 31) {
                t.x.pack();
                t.x.drop();
            }
        }
        t.x.pack();
        t.drop().field("" + (char) (65 + 2), "!");
        Trial.due("place 62", t.pack(), "7e0121");
        t.drop().field("" + (char) (65 + 2), "?");
        Trial.due("place 1 now", t.pack(), "41013f");
        t.drop().field("" + (char) (65 + 3), "!");
        Trial.due("place 63", t.pack(), "7f000121");
    }

    private static void secretFields() {
        Trial t = new Trial();
        t.fixed("A", "1");
        t.secret("A", "1").secret("B", "2").secret("B", "2").field("B", "2").secret("B", "2");
        Trial.due("secret", t.pack(),
            "110131" + "1001420132" + "1001420132" + "4001420132" + "120132");
        Trial.due("never remembered", t.table(0), "B=2 34/256");
    }

    private static void looseFields() {
        Trial t = new Trial();
        t.limit(40).field("A", "1234567").field("A", "12345678").field("B", "12345678");
        Trial.due("as large as the limit, and more", t.pack(), "3f09"
            + "400141" + "8508864298ff" + "01" + Trial.tight("12345678") + "000142" + Trial.tight("12345678"));
        Trial.due("table", t.table(0), "A=1234567 40/40");
        Trial none = new Trial();
        none.limit(31).field("", "");
        Trial.due("nothing fits", none.pack(), "3f00" + "000000");
        Trial.due("nothing put in", none.table(0), "0/31");
    }

    private static void oldestGoes() {
        Trial t = new Trial();
        t.limit(102).field("A", "1").field("B", "2").field("C", "3").field("A", "4").field("A", "1");
        Trial.due("name of one that goes", t.pack(),
            "3f47" + "4001410131" + "4001420132" + "4001430133" + "430134" + "410131");
        Trial.due("the newest stay", t.table(0), "A=1 A=4 C=3 102/102");
        t.drop().field("D", "56");
        t.pack();
        Trial.due("two go for one", t.table(0), "D=56 A=1 69/102");
    }

    private static void plainTexts() {
        Trial t = new Trial();
        t.secret(Trial.many("Z", 126), Trial.many("Y", 127));
        Trial.due("126 and 127", t.pack(),
            "10" + "7e" + Trial.many("5a", 126) + "7f00" + Trial.many("59", 127));
        Trial.due("200", new Trial().secret("", Trial.many("X", 200)).pack(), "10" + "00" + "7f49" + Trial.many("58", 200));
    }

    private static void tightTexts() {
        dueValue("aa", "02" + "6161");
        dueValue("aaa", "82" + "5295");
        dueValue("aaaaZ", "05" + "616161615a");
        dueValue("aaaaaaZ", "86" + "5294a52beb5f");
        dueValue(Trial.SIGNS, Trial.tight(Trial.SIGNS));
        dueValue(Trial.SIGNS, "94" + "00443214c74254b635cf84653a56d7c675be77df");
        dueValue(",,,,,", "84" + "f7bdef7f");
        dueValue(Trial.many("0", 200), "fd" + Trial.many("00", 125));
        dueValue(Trial.many("e", 199) + "Z", Trial.tight(Trial.many("e", 199) + "Z"));
        dueValue(Trial.many("e", 175) + Trial.many("Z", 11), Trial.tight(Trial.many("e", 175) + Trial.many("Z", 11)));
        dueValue(Trial.many("e", 174) + Trial.many("Z", 11), Trial.tight(Trial.many("e", 174) + Trial.many("Z", 11)));
        dueValue(Trial.many("eZ", 90), "7f35" + Trial.many("655a", 90));
        dueValue("bfgjkqvwxyz", "0b" + Trial.hexOf("bfgjkqvwxyz"));
        dueValue("AAAAAAAAAA" + Trial.many("1", 100), Trial.tight("AAAAAAAAAA" + Trial.many("1", 100)));
    }

    private static void anyBytes() {
        for (int b = 0; b < 256; b++) {
            String text = "111111" + (char) b + "11";
            dueValue(text, Trial.tight(text));
        }
    }

    /** Packed as a secret field's value without a name, then unpacked. */
    private static void dueValue(String value, String want) {
        Trial t = new Trial();
        t.secret("", value);
        Trial.due("text " + value, t.pack(), "1000" + want);
        Trial.due("around " + value, t.around() + t.list(), "0 -1*=" + value);
    }

    private static void limitNumbers() {
        dueLimit(0, "20");
        dueLimit(30, "3e");
        dueLimit(31, "3f00");
        dueLimit(158, "3f7f");
        dueLimit(159, "3f8001");
        dueLimit(255, "3fe001");
        dueLimit(256, "");
        dueLimit(257, "3fe201");
        dueLimit(4096, "3fe11f");
    }

    private static void dueLimit(int n, String want) {
        Trial t = new Trial();
        t.limit(n);
        Trial.due("limit " + n, t.pack(), want);
        Trial.due("told once", t.pack(), "");
        t.unpack(want);
        Trial.due("other side", t.x.table(1, 2), n);
    }

    private static void limitsSinceTheBlockBefore() {
        Trial t = new Trial();
        t.limit(0).limit(256);
        Trial.due("less, then the first one", t.pack(), "20" + "3fe101");
        t.limit(30).limit(4096).limit(10).limit(20);
        Trial.due("the least one", t.pack(), "2a" + "34");
        t.limit(25).limit(22);
        Trial.due("more, then less, but not less than the one told", t.pack(), "36");
        t.limit(30).limit(22);
        Trial.due("more, then as it was", t.pack(), "");
        t.limit(21).limit(22);
        Trial.due("less, then as it was", t.pack(), "35" + "36");
        t.limit(22);
        Trial.due("the same", t.pack(), "");
        t.limit(22).limit(24);
        Trial.due("least is the one told", t.pack(), "38");
        t.limit(20).limit(10);
        Trial.due("least is what it is now", t.pack(), "2a");
        t.limit(12);
        Trial.due("the block before counts no more", t.pack(), "2c");
        t.limit(5000).limit(-1);
        Trial.due("wrong ones are none", t.pack(), "");
    }

    private static void tooLong() {
        Trial t = StateTest.sixThousand();
        Trial.due("6000", t.x.pack(), 6000);
        t.drop().limit(100).limit(200).field("a", "1");
        t.name(Trial.many("Z", 200));
        for (int i = 0; i < 29; i++) {
            t.x.field(1);
        }
        // limits take 2 and 3 bytes, the first field 5, the 29 others 5916: 6001 with one of 75
        t.secret("Y", Trial.many("X", 71));
        Trial.due("6001", t.x.pack(), FieldPacker.FULL);
        Trial.due("no block", t.x.count(5) + " " + t.x.count(4), "1 6000");
        Trial.due("nothing put in", t.table(0), "0/200");
        Trial.due("the list stays", t.x.count(0), 31);
        Trial.due("the block before stays", t.x.packed(5999) + " " + t.x.packed(6000), "88 -1");
        t.drop();
        Trial.due("limits are still to be told", t.pack(), "3f45" + "3fa901");
    }
}
