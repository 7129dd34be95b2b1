/** The terms of texts, fields, places, sizes, limits, numbers, and of how blocks are packed: each boundary case. */
public final class TermsEdgeTest {
    public static void main(String[] args) {
        textsOfAnyLength();
        textsOfAnyKind();
        secretOrNot();
        placesBehindTheFixedEntries();
        sizesOfEntries();
        sizesTogether();
        sizesTogetherAtTheLargestLimit();
        theOldestGoes();
        largerThanTheLimitByItself();
        numbersOfSevenBits();
        placesOfSevenBits();
        numbersOfSixBits();
        numbersOfFiveBits();
        numbersOfFourBits();
        plainOrTight();
        signsAndOthers();
        lastByteFilledWithOnes();
        theLeastLimitAndTheOneNow();
        theLimitNowAlone();
        limitsSinceTheBlockBefore();
        secretByItsName();
        wholeAtItsLeastPlace();
        keptUpToTheLimit();
        looseOverTheLimit();
        Trial.end();
    }

    /** The field alone in a block, there and back. */
    private static void dueAround(Trial t, String name, String value) {
        String star = t.x.about(0, 2) == 1 ? "*" : "";
        Trial.due("packed and unpacked", t.x.pack() > 0 ? t.around() + " " + t.x.count(0) : "none", "0 -1 1");
        Trial.due("as it was", t.list(), star + name + "=" + value);
    }

    private static void textsOfAnyLength() {
        Trial.holds("terms", "TEXTS are up to 200 bytes");
        for (int length : new int[] {0, 1, 199, 200}) {
            for (String letter : new String[] {"Z", "a"}) {
                String text = Trial.many(letter, length);
                dueAround(new Trial().secret(text, ""), text, "");
                dueAround(new Trial().secret("", text), "", text);
                dueAround(new Trial().limit(432).field("", text), "", text);
                dueAround(new Trial().limit(0).field(text, ""), text, "");
            }
        }
        String most = Trial.many("Z", 200);
        Trial t = new Trial().limit(432).field(most, most);
        Trial.due("both", t.x.pack() + " " + t.around(), "408 0 -1");
        Trial.due("both", t.x.about(0, 0) + " " + t.x.about(0, 1) + " " + t.x.entry(1, 0), "200 200 432");
        dueAround(new Trial().field("", ""), "", "");
    }

    private static void textsOfAnyKind() {
        Trial.holds("terms", "of any kind");
        for (int from = 0; from < 256; from += 32) {
            StringBuilder kinds = new StringBuilder();
            for (int b = from; b < from + 32; b++) {
                kinds.append((char) b);
            }
            String plain = kinds.toString();
            dueAround(new Trial().field(plain, plain), plain, plain);
            String tight = plain + Trial.many("0", 120);
            dueAround(new Trial().secret("", tight), "", tight);
        }
    }

    private static void secretOrNot() {
        Trial.holds("terms", "and is SECRET or not");
        Trial t = new Trial().field("a", "1").secret("a", "1").field("a", "1").secret("b", "1").limit(33).field("c", "2");
        t.pack();
        Trial.due("around", t.around() + " " + t.list(), "0 -1 a=1 *a=1 a=1 *b=1 c=2");
        Trial remembered = new Trial().field("a", "1").secret("b", "2").secret("a", "3");
        remembered.pack();
        remembered.around();
        Trial.due("never remembered", remembered.table(0) + " " + remembered.table(1), "a=1 34/256 a=1 34/256");
        Trial.due("nor secret when it comes again", remembered.unpack("81") + " " + remembered.list(), "0 -1 a=1");
    }

    private static void placesBehindTheFixedEntries() {
        Trial.holds("terms", "The FIXED entries, at most 20, names and values, have the places 1 and on; "
            + "the TABLE's entries the places behind, the newest first.");
        for (int many : new int[] {0, 1, 2, 19, 20}) {
            Trial t = new Trial();
            for (int i = 1; i <= many; i++) {
                t.fixed("f", "" + (char) (96 + i));
            }
            t.field("T", "1").field("T", "2").field("T", "3");
            t.pack();
            t.around();
            for (int place = 1; place <= many; place++) {
                dueAtPlace(t, place, "f=" + (char) (96 + place));
            }
            dueAtPlace(t, many + 1, "T=3");
            dueAtPlace(t, many + 2, "T=2");
            dueAtPlace(t, many + 3, "T=1");
            Trial.due("behind the last", t.unpack(String.format("%02x", 0x80 + many + 4)), "2 0");
            Trial.due("before the first", t.unpack("80"), "2 0");
        }
    }

    private static void dueAtPlace(Trial t, int place, String want) {
        String whole = String.format("%02x", 0x80 + place);
        Trial.due("unpacked at place " + place, t.unpack(whole) + " " + t.list(), "0 -1 " + want);
        Trial.due("packed to place " + place, t.pack(), whole);
    }

    private static void sizesOfEntries() {
        Trial.holds("terms", "An entry's SIZE is its bytes and 32");
        int[][] lengths = {{0, 0}, {1, 0}, {0, 1}, {200, 0}, {0, 200}, {200, 200}};
        for (int[] length : lengths) {
            int size = length[0] + length[1] + 32;
            Trial t = new Trial().limit(size).field(Trial.many("a", length[0]), Trial.many("b", length[1]));
            t.x.pack();
            t.around();
            for (int side = 0; side < 2; side++) {
                Trial.due("size", t.x.entry(side, 0) + " " + t.x.table(side, 1) + " " + t.x.table(side, 2),
                    size + " " + size + " " + size);
            }
        }
    }

    /** Sizes of the entries that each side has once fields with values of such lengths went around, the newest first. */
    private static String sizesOf(Trial t, int... values) {
        for (int i = 0; i < values.length; i++) {
            t.field("" + (char) (65 + i), Trial.many("v", values[i] - 33));
        }
        t.x.pack();
        Trial.due("around", t.around(), "0 -1");
        String[] sides = {"", ""};
        for (int side = 0; side < 2; side++) {
            int entries = t.x.table(side, 0);
            for (int i = 0; i < entries; i++) {
                sides[side] += t.x.entry(side, i) + " ";
            }
            sides[side] += "of " + t.x.table(side, 1);
        }
        Trial.due("unpacking side", sides[1], sides[0]);
        return sides[0];
    }

    private static void sizesTogether() {
        Trial.holds("terms", "all in the table have at most the LIMIT together, 256 at first");
        Trial.due("256", sizesOf(new Trial(), 128, 128), "128 128 of 256");
        Trial.due("257", sizesOf(new Trial(), 128, 129), "129 of 129");
        Trial.due("257 of three", sizesOf(new Trial(), 33, 128, 96), "96 128 of 224");
        Trial.due("256 of three", sizesOf(new Trial(), 33, 128, 95), "95 128 33 of 256");
        Trial.due("256 alone", sizesOf(new Trial(), 33, 233), "233 of 233");
        Trial.due("255 by limit", sizesOf(new Trial().limit(255), 128, 128), "128 of 128");
        Trial.due("257 by limit", sizesOf(new Trial().limit(257), 128, 129), "129 128 of 257");
        Trial same = new Trial();
        same.unpack(Trial.many("400000", 8));
        Trial.due("8 of 32", same.x.table(1, 0) + " " + same.x.table(1, 1), "8 256");
        same.unpack("400000");
        Trial.due("a ninth", same.x.table(1, 0) + " " + same.x.table(1, 1), "8 256");
        same.unpack("40000141");
        Trial.due("a larger one", same.x.table(1, 0) + " " + same.x.table(1, 1), "7 225");
    }

    private static void sizesTogetherAtTheLargestLimit() {
        Trial.holds("terms", "up to 4096");
        Trial t = new Trial().limit(4096).name(Trial.many("N", 200));
        for (int i = 0; i < 9; i++) {
            t.type(Trial.many("" + (char) (65 + i), 200)).x.field(0);
        }
        t.field("", Trial.many("V", 176));
        t.x.pack();
        Trial.due("packing", t.x.table(0, 0) + " " + t.x.table(0, 1), "10 4096");
        Trial.due("around", t.around() + " " + t.x.table(1, 0) + " " + t.x.table(1, 1), "0 -1 10 4096");
        t.drop().field("", "");
        t.x.pack();
        Trial.due("one more", t.x.table(0, 0) + " " + t.x.table(0, 1), "10 3696");
        Trial.due("around", t.around() + " " + t.x.table(1, 0) + " " + t.x.table(1, 1), "0 -1 10 3696");
        Trial many = new Trial();
        many.unpack("3fe11f" + Trial.many("400000", 60));
        many.unpack(Trial.many("400000", 60));
        many.unpack(Trial.many("400000", 8));
        Trial.due("128 of 32", many.x.table(1, 0) + " " + many.x.table(1, 1), "128 4096");
        many.unpack("400000");
        Trial.due("a 129th", many.x.table(1, 0) + " " + many.x.table(1, 1), "128 4096");
        Trial.due("the last place", many.unpack("ff01") + " " + many.unpack("ff02"), "0 -1 2 0");
    }

    private static void theOldestGoes() {
        Trial.holds("terms", "A new entry: while it would be more, the oldest goes");
        Trial.due("none", sizesOf(new Trial().limit(106), 35, 36, 35), "35 36 35 of 106");
        Trial.due("one", sizesOf(new Trial().limit(105), 35, 36, 35), "35 36 of 71");
        Trial.due("one, exactly", sizesOf(new Trial().limit(105), 35, 34, 33, 38), "38 33 34 of 105");
        Trial.due("two", sizesOf(new Trial().limit(105), 35, 34, 33, 39), "39 33 of 72");
        Trial.due("two, exactly", sizesOf(new Trial().limit(105), 35, 34, 33, 72), "72 33 of 105");
        Trial.due("all", sizesOf(new Trial().limit(105), 35, 34, 33, 73), "73 of 73");
        Trial.due("all, exactly", sizesOf(new Trial().limit(105), 35, 34, 33, 105), "105 of 105");
        Trial.due("a small oldest one goes first", sizesOf(new Trial().limit(150), 33, 100, 40), "40 100 of 140");
        Trial.due("a large oldest one goes first", sizesOf(new Trial().limit(150), 100, 33, 40), "40 33 of 73");
        Trial t = new Trial().limit(68).field("A", "1").field("B", "2").field("A", "3").field("B", "2");
        Trial.due("the name of the one that goes", t.pack(), "3f25" + "4001410131" + "4001420132" + "420133" + "82");
        Trial.due("around", t.around() + " " + t.list(), "0 -1 A=1 B=2 A=3 B=2");
    }

    private static void largerThanTheLimitByItself() {
        Trial.holds("terms", "if it is larger than the limit by itself all go, and it is not put in");
        String two = "3f25" + "4001610162" + "4001630164";
        Trial t = new Trial();
        t.unpack(two);
        Trial.due("as large as the limit", t.unpack("40" + "0165" + "23" + Trial.many("41", 35)), "0 -1");
        Trial.due("it alone", t.table(1), "e=" + Trial.many("A", 35) + " 68/68");
        t = new Trial();
        t.unpack(two);
        Trial.due("one byte larger", t.unpack("40" + "0165" + "24" + Trial.many("41", 36)), "0 -1");
        Trial.due("all gone", t.table(1) + " " + t.list(), "0/68 e=" + Trial.many("A", 36));
        Trial.due("at the limit 31", t.unpack("3f00" + "400000") + " " + t.table(1), "0 -1 0/31");
        Trial.due("at the limit 0", t.unpack("20" + "400000") + " " + t.table(1), "0 -1 0/0");
        Trial.due("at the limit 32", t.unpack("3f01" + "400000") + " " + t.table(1), "0 -1 = 32/32");
        Trial.due("no place then", t.unpack("3f01" + "40000141" + "81"), "2 1");
        Trial.due("more behind it in the block", t.unpack("40000141" + "400000" + "81") + " " + t.table(1), "0 -1 = 32/32");
    }

    /** A secret field's value without a name, and the name of one without a value. */
    private static void dueText(String text, String want) {
        Trial value = new Trial().secret("", text);
        Trial.due("value", value.pack(), "1000" + want);
        Trial name = new Trial().secret(text, "");
        Trial.due("name", name.pack(), "10" + want + "00");
    }

    private static void numbersOfSevenBits() {
        Trial.holds("terms", "if it is less than 2 to the k, less 1, these k bits; else k ones, and what is more");
        dueText("", "00");
        dueText(Trial.many("Z", 126), "7e" + Trial.many("5a", 126));
        dueText(Trial.many("Z", 127), "7f00" + Trial.many("5a", 127));
        dueText(Trial.many("Z", 128), "7f01" + Trial.many("5a", 128));
        dueText(Trial.many("Z", 200), "7f49" + Trial.many("5a", 200));
        // 5 bits and 13 bits: 1003, 1016 and 1024 of them
        dueTightBytes(198, 1, "fe", 126);
        dueTightBytes(198, 2, "ff00", 127);
        dueTightBytes(197, 3, "ff01", 128);
        dueUnpackedLength("7e", 126);
        dueUnpackedLength("7f00", 127);
        dueUnpackedLength("7f49", 200);
        dueUnpackedLength("7fc900", 200);
        dueUnpackedLength("7fc98000", 200);
    }

    private static void dueUnpackedLength(String number, int length) {
        Trial t = new Trial();
        Trial.due("unpack", t.unpack("1000" + number + Trial.many("5a", length)), "0 -1");
        Trial.due("its length", t.x.about(0, 1), length);
    }

    private static void dueTightBytes(int signs, int others, String number, int bytes) {
        String text = Trial.many("e", signs) + Trial.many("Z", others);
        String want = Trial.tight(text);
        Trial.due("tight bytes", want.length(), number.length() + 2 * bytes);
        Trial.due("their number", want.substring(0, number.length()), number);
        dueText(text, want);
        Trial t = new Trial().secret("", text);
        t.x.pack();
        Trial.due("around", t.around() + " " + t.list(), "0 -1 *=" + text);
    }

    /** Twenty fixed entries, and 124 of the table with names of one byte: the most that 4096 has room for. */
    private static Trial manyNames() {
        Trial t = new Trial().limit(4096);
        for (int i = 0; i < 20; i++) {
            t.x.type(1, 1);
            t.x.fixed();
        }
        t.x.field(0);
        for (int i = 1; i < 124; i++) {
            t.x.type(100 + i, 1);
            t.x.name();
            t.x.field(0);
            if (i == 59 || i == 118) {
                t.x.pack();
                t.x.drop();
            }
        }
        t.x.pack();
        t.x.drop();
        return t;
    }

    /** The name of the table's entry at a place, from the newest, 223, at 21. */
    private static String nameAt(int place) {
        return place == 144 ? "" : "" + (char) (223 + 21 - place);
    }

    private static void placesOfSevenBits() {
        Trial.holds("terms", "bit 1 and its least place as a number of 7 bits");
        Trial t = manyNames();
        Trial.due("entries", t.x.table(0, 0) + " " + t.x.table(0, 1), "124 4091");
        t.field(nameAt(21), "").field(nameAt(126), "").field(nameAt(127), "").field(nameAt(128), "");
        t.field(nameAt(143), "").field(nameAt(144), "");
        Trial.due("places", t.pack(), "95" + "fe" + "ff00" + "ff01" + "ff10" + "ff11");
        Trial back = new Trial();
        back.unpack("3fe11f" + Trial.many("400000", 60));
        back.unpack(Trial.many("400000", 60));
        back.unpack("40000141" + Trial.many("400000", 6));
        Trial.due("127 entries", back.x.table(1, 0), 127);
        Trial.due("place 7", back.unpack("87") + " " + back.list(), "0 -1 =A");
        back.unpack("40000142");
        Trial.due("one for one", back.x.table(1, 0), 127);
        Trial.due("126 to 128", back.unpack("fe" + "ff00") + " " + back.unpack("ff01"), "0 -1 2 0");
    }

    private static void numbersOfSixBits() {
        Trial.holds("terms", "bits 01, and likewise with 6 bits");
        int[] places = {21, 62, 63, 64, 143};
        String[] numbers = {"55", "7e", "7f00", "7f01", "7f50"};
        for (int i = 0; i < places.length; i++) {
            Trial t = manyNames().field(nameAt(places[i]), "Q");
            Trial.due("place " + places[i], t.pack(), numbers[i] + "0151");
        }
        Trial.due("no place", new Trial().field("Q", "").pack(), "40015100");
        Trial back = new Trial();
        back.unpack("3fe11f" + "40014100" + Trial.many("400000", 59));
        back.unpack(Trial.many("400000", 2));
        Trial.due("place 62", back.unpack("7e0151") + " " + back.list(), "0 -1 A=Q");
        back.unpack("20");
        back.unpack("3fe11f" + "40014100" + Trial.many("400000", 59));
        back.unpack(Trial.many("400000", 3));
        Trial.due("place 63", back.unpack("7f000151") + " " + back.list(), "0 -1 A=Q");
        Trial.due("place 64, as one has come", back.unpack("7f010152") + " " + back.list(), "0 -1 A=R");
    }

    private static void numbersOfFiveBits() {
        Trial.holds("terms", "each as bits 001 and a number of 5 bits");
        int[] limits = {0, 1, 29, 30, 31, 32, 157, 158, 159, 160, 255, 257, 4095, 4096};
        String[] numbers = {"20", "21", "3d", "3e", "3f00", "3f01", "3f7e", "3f7f", "3f8001", "3f8101", "3fe001", "3fe201",
            "3fe01f", "3fe11f"};
        for (int i = 0; i < limits.length; i++) {
            Trial t = new Trial().limit(limits[i]);
            Trial.due("limit " + limits[i], t.pack(), numbers[i]);
            Trial.due("unpacked", t.unpack(numbers[i]) + " " + t.x.table(1, 2), "0 -1 " + limits[i]);
        }
    }

    private static void numbersOfFourBits() {
        Trial.holds("terms", "as a number of 4 bits");
        int[] places = {21, 142, 143};
        String[] numbers = {"f06", "f7f", "f8001"};
        for (int i = 0; i < places.length; i++) {
            Trial t = manyNames().secret(nameAt(places[i]), "Q");
            Trial.due("secret " + places[i], t.pack(), "1" + numbers[i] + "0151");
        }
        String[] few = {"e", "f00", "f01"};
        for (int place = 14; place <= 16; place++) {
            Trial t = new Trial();
            for (int i = 1; i <= 20; i++) {
                t.fixed("" + (char) (64 + i), "");
            }
            String name = "" + (char) (64 + place);
            String number = few[place - 14];
            Trial.due("secret " + place, t.secret(name, "Q").pack(), "1" + number + "0151");
            t.around();
            Trial.due("unpacked", t.list(), "*" + name + "=Q");
            Trial.due("loose " + place, t.drop().limit(0).field(name, "Q").pack(), "20" + "0" + number + "0151");
            t.around();
            Trial.due("unpacked", t.list(), name + "=Q");
        }
        Trial.due("no place", new Trial().secret("Q", "").pack(), "10015100");
        Trial.due("no place", new Trial().limit(0).field("Q", "").pack(), "20" + "00015100");
        Trial far = new Trial();
        far.unpack("3fe11f" + "40014100" + Trial.many("400000", 59));
        far.unpack(Trial.many("400000", 60));
        far.unpack(Trial.many("400000", 7));
        Trial.due("127 entries", far.x.table(1, 0) + " " + far.x.entry(1, 126), "127 33");
        Trial.due("place 127", far.unpack("1f700151" + "0f700152") + " " + far.list(), "0 -1 *A=Q A=R");
        Trial.due("place 128", far.unpack("1f710151"), "2 0");
    }

    private static void plainOrTight() {
        Trial.holds("terms", "TIGHTLY, if that has less bytes");
        dueText("a", "0161");
        dueText("aa", "026161");
        dueText("aaa", "825295");
        dueText("Z", "015a");
        dueText("aZ", "02615a");
        dueText("aaZ", "0361615a");
        dueText("aaaZ", "046161615a");
        dueText("aaaaZ", "05616161615a");
        dueText("aaaaaZ", "85" + "5294a57d6b");
        dueText(Trial.many("a", 126) + Trial.many("Z", 74), Trial.tight(Trial.many("a", 126) + Trial.many("Z", 74)));
        Trial.due("199 tight bytes", Trial.tight(Trial.many("a", 126) + Trial.many("Z", 74)).length(), 2 * (2 + 199));
        dueText(Trial.many("a", 125) + Trial.many("Z", 75), "7f49" + Trial.many("61", 125) + Trial.many("5a", 75));
        Trial t = new Trial().secret("", Trial.many("a", 126) + Trial.many("Z", 74));
        t.x.pack();
        Trial.due("around", t.around() + " " + t.list(), "0 -1 *=" + Trial.many("a", 126) + Trial.many("Z", 74));
    }

    private static void signsAndOthers() {
        Trial.holds("terms", "its place among 31 signs .. counted from 0; or 5 ones and its 8 bits");
        for (int b = 0; b < 256; b++) {
            int place = "0123456789aceilnorstdhmpu-./:=,".indexOf(b);
            String text = (char) b + "00000000";
            // five bits of its own, or 5 ones and 8 bits, then zeros, then ones
            String want = place >= 0
                ? "86" + String.format("%02x", place << 3) + "00000000" + "07"
                : "87" + String.format("%04x", 0xf800 | b << 3) + "00000000" + "07";
            Trial t = new Trial().secret("", text);
            Trial.due("byte " + b, t.pack(), "1000" + want);
            Trial.due("around", t.around() + " " + t.list(), "0 -1 *=" + text);
        }
        Trial.due("the last sign", new Trial().secret("", ",,,").pack(), "1000" + "82" + "f7bd");
        Trial.due("the first sign", new Trial().secret("", "000").pack(), "1000" + "82" + "0001");
    }

    private static void lastByteFilledWithOnes() {
        Trial.holds("terms", "the last byte filled with ones");
        String[] want = {"820001", "8300000f", "840000007f", "8400000003", "85000000001f", "850000000000"};
        for (int length = 3; length <= 8; length++) {
            dueText(Trial.many("0", length), want[length - 3]);
        }
        dueText(Trial.many("0", 9), "86" + "0000000000" + "07");
        dueText(Trial.many("0", 10), "87" + "000000000000" + "3f");
        dueText("0000000A", "86" + "00000000" + "1f41");
    }

    private static void dueLimits(String want, int... limits) {
        Trial t = new Trial();
        for (int n : limits) {
            Trial.due("limit " + n, t.x.limit(n), 1);
        }
        Trial.due("limits", t.pack(), want);
        Trial.due("and then", t.pack(), "");
    }

    private static void theLeastLimitAndTheOneNow() {
        Trial.holds("terms", "if since the block before it has been less than both what it is now and what was the last one in "
            + "blocks (256 before any), the least that it has been, and what it is now");
        dueLimits("3fe001" + "3fe101", 255, 256);
        dueLimits("20" + "3fe101", 0, 256);
        dueLimits("20" + "21", 0, 1);
        dueLimits("3fe001" + "3fe201", 255, 257);
        dueLimits("3fdf01" + "3fe001", 254, 255);
        dueLimits("25" + "27", 9, 5, 7);
        dueLimits("25" + "3fe11f", 5, 9, 4096, 6, 4096);
        dueLimits("25" + "26", 4096, 5, 6);
    }

    private static void theLimitNowAlone() {
        Trial.holds("terms", "else what it is now, if that is another than the last one in blocks");
        dueLimits("");
        dueLimits("", 256);
        dueLimits("", 257, 256);
        dueLimits("", 256, 4096, 256);
        dueLimits("3fe001", 255);
        dueLimits("3fe201", 257);
        dueLimits("3fe201", 256, 257);
        dueLimits("3fe301", 300, 256, 258);
        dueLimits("3fe301", 300, 257, 258);
        dueLimits("25", 9, 7, 5);
        dueLimits("25", 5, 5);
        dueLimits("20", 4096, 0);
    }

    private static void limitsSinceTheBlockBefore() {
        Trial.holds("terms", "if since the block before it has been less than both");
        Trial t = new Trial().limit(5).limit(20);
        Trial.due("first", t.pack(), "25" + "34");
        Trial.due("none", t.pack(), "");
        t.limit(21);
        Trial.due("more: what was less is behind the block before", t.pack(), "35");
        t.limit(20).limit(21);
        Trial.due("less than the last one told", t.pack(), "34" + "35");
        t.limit(22).limit(21).limit(23);
        Trial.due("as the last one told, but not less", t.pack(), "37");
        t.limit(22);
        Trial.due("less now", t.pack(), "36");
        t.limit(23);
        Trial.due("the least begins anew", t.pack(), "37");
        t.limit(0).limit(23).limit(-1).limit(4097);
        Trial.due("refused ones do not count", t.pack(), "20" + "37");
        t.field("a", "1");
        Trial.due("limits before all fields", t.limit(0).limit(40).pack(), "20" + "3f09" + "4001610131");
        t.limit(33).limit(40);
        Trial.due("what went is told anew", t.pack(), "3f02" + "3f09" + "4001610131");
        t.limit(34).limit(40);
        Trial.due("what stayed is told by its place", t.pack(), "3f03" + "3f09" + "81");
    }

    private static void secretByItsName() {
        Trial.holds("terms", "a secret one: bits 0001 and the least place of an entry with its name, 0 if there is none");
        Trial t = new Trial().fixed("a", "1").fixed("b", "2").fixed("b", "3");
        t.field("c", "4").field("c", "5").field("b", "6");
        t.pack();
        t.drop().secret("a", "1").secret("b", "3").secret("c", "4").secret("d", "7").secret("d", "7").secret("", "");
        Trial.due("by names", t.pack(), "110131" + "120133" + "150134" + "1001640137" + "1001640137" + "100000");
        Trial.due("nothing put in", t.table(0), "b=6 c=5 c=4 102/256");
        Trial.due("the start of a name is another", new Trial().fixed("ab", "").secret("a", "").pack(), "10016100");
        Trial.due("the end of a name is another", new Trial().fixed("a", "").secret("ab", "").pack(), "1002616200");
        Trial.due("a value is no name", new Trial().fixed("x", "a").secret("a", "").pack(), "10016100");
        Trial.due("an empty name is one too", new Trial().fixed("", "x").secret("", "").pack(), "1100");
        Trial.due("at the limit 0", new Trial().limit(0).secret("a", "").pack(), "20" + "10016100");
    }

    private static void wholeAtItsLeastPlace() {
        Trial.holds("terms", "if an entry is the same: bit 1 and its least place");
        Trial t = new Trial().fixed("a", "1").fixed("b", "2").fixed("b", "2").fixed("", "");
        t.field("b", "2").field("a", "1").field("", "").field("a", "2").field("b", "1").field("a", "2");
        Trial.due("same ones alone", t.pack(), "82" + "81" + "84" + "410132" + "420131" + "86");
        Trial.due("the split elsewhere", new Trial().fixed("ab", "c").field("a", "bc").pack(), "400161026263");
        Trial.due("more behind", new Trial().fixed("a", "1").field("a", "12").pack(), "41023132");
        Trial.due("less behind", new Trial().fixed("a", "12").field("a", "1").pack(), "410131");
        Trial.due("another last byte", new Trial().fixed("a", "12").field("a", "13").pack(), "41023133");
        Trial.due("over the limit", new Trial().fixed("a", "1").limit(0).field("a", "1").pack(), "20" + "81");
        Trial twice = new Trial().fixed("f", "");
        twice.unpack("4001610131" + "400000" + "4001610131");
        Trial.due("each place unpacked", twice.unpack("828384") + " " + twice.list(), "0 -1 a=1 = a=1");
    }

    private static void keptUpToTheLimit() {
        Trial.holds("terms", "Else, if its size is not more than the limit: bits 01, and likewise with 6 bits; "
            + "and it is put into the table.");
        int[] limits = {32, 33, 256, 432, 4096};
        for (int limit : limits) {
            int bytes = Math.min(limit - 32, 400);
            String name = Trial.many("N", Math.min(200, bytes));
            String value = Trial.many("V", bytes - name.length());
            Trial fits = new Trial().limit(limit).field(name, value);
            fits.x.pack();
            Trial.due("size of the limit " + limit, fits.x.table(0, 0) + " " + fits.x.entry(0, 0), "1 " + (bytes + 32));
            Trial.due("around", fits.around() + " " + fits.x.table(1, 0) + " " + fits.x.entry(1, 0), "0 -1 1 " + (bytes + 32));
        }
        Trial least = new Trial().limit(32).field("", "");
        Trial.due("the least", least.pack(), "3f01" + "400000");
        Trial.due("the least again", least.pack(), "81");
    }

    private static void looseOverTheLimit() {
        Trial.holds("terms", "Else bits 0000, and likewise with 4 bits.");
        int[] limits = {0, 31, 32, 255, 256, 431};
        for (int limit : limits) {
            int bytes = Math.max(0, limit + 1 - 32);
            String name = Trial.many("N", Math.min(200, bytes));
            String value = Trial.many("V", bytes - name.length());
            Trial large = new Trial().limit(limit).field(name, value);
            large.x.pack();
            Trial.due("larger than " + limit, large.x.table(0, 0) + " " + large.x.table(0, 1), "0 0");
            Trial.due("around", large.around() + " " + large.x.table(1, 0), "0 -1 0");
            Trial.due("its texts", large.x.about(0, 0) + " " + large.x.about(0, 1), name.length() + " " + value.length());
        }
        Trial t = new Trial().limit(68).field("a", "1").field("b", "2").field("b", Trial.many("Z", 36)).field("a", "1");
        Trial.due("what is there stays", t.pack(), "3f25" + "4001610131" + "4001620132" + "0124" + Trial.many("5a", 36) + "82");
        Trial.due("table", t.table(0), "b=2 a=1 68/68");
        Trial.due("other side", t.around() + " " + t.table(1), "0 -1 b=2 a=1 68/68");
        Trial.due("nothing fits", new Trial().limit(31).field("", "").field("", "").pack(), "3f00" + "000000" + "000000");
    }
}
