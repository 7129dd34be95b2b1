/** The terms of unpacking: any block of the parts, and every fault, the last bytes taken and the first refused. */
public final class FaultEdgeTest {
    /** The marks of the kinds of fields that have texts, with the bits of their numbers all ones. */
    private static final String[] TEXT_KINDS = {"7f", "1f", "0f"};

    /** Behind each of these a number goes on: its first byte has all ones. */
    private static final String[] NUMBERS = {"ff", "7f", "1f", "0f", "3f", "417f", "41ff", "407f", "40ff", "400161ff", "117f"};

    public static void main(String[] args) {
        anyBlockOfTheParts();
        limitsBeforeAllFields();
        eachLimitPutsTheLimit();
        theSameFixedEntries();
        bytesEndAnywhere();
        bytesEndAfterAll();
        placesAtWhichNothingIs();
        placeNoughtForAWholeField();
        placesFarOff();
        limitBehindAField();
        limitOverItsBound();
        numberWithAFourthByte();
        numberOverItsBound();
        numberAheadOfWhatItStandsFor();
        plainTextTooLong();
        tightTextTooLong();
        tightBitsLeft();
        sixtyFirstField();
        theFirstFaultMet();
        nothingIsChanged();
        Trial.end();
    }

    /** Two fixed entries, n=v and m=w. */
    private static Trial trial() {
        return new Trial().fixed("n", "v").fixed("m", "w");
    }

    private static void due(String hex, String want) {
        Trial.due("unpack " + hex, trial().unpack(hex), want);
    }

    private static void dueList(String hex, String want) {
        Trial t = trial();
        Trial.due("unpack " + hex, t.unpack(hex) + " " + t.list(), "0 -1 " + want);
    }

    private static void anyBlockOfTheParts() {
        Trial.holds("terms", "Unpacked is any block of these parts");
        dueList("", "");
        dueList("4001610162" + "4001610162" + "84" + "83", "a=b a=b a=b a=b");
        dueList("40016e0176" + "0001610162", "n=v a=b");
        dueList("41" + "825295" + "41" + "03616161", "n=aaa n=aaa");
        dueList("41" + "8157" + "41" + "82fad7" + "41" + "80", "n=a n=Z n=");
        dueList("41" + "82fb0f" + "40" + "82fb0f" + "00", "n=a a=");
        dueList("0101610201621101631201640001650166", "n=a m=b *n=c *m=d e=f");
        dueList("40016e00" + "430161" + "410162", "n= n=a n=b");
        dueList("3f25" + "4001610162" + "0001610162" + "1001610162", "a=b a=b *a=b");
        Trial t = trial();
        t.unpack("4001610162" + "4001610162" + "81");
        Trial.due("the same one twice in the table", t.table(1), "a=b a=b 68/256");
    }

    private static void limitsBeforeAllFields() {
        Trial.holds("terms", "in which limits stand before all fields");
        due("20", "0 -1");
        due("2021222324", "0 -1");
        due("20" + "81", "0 -1");
        due("81" + "20", "3 1");
        due("20" + "81" + "20", "3 1");
        String[] fields = {"81", "4001610162", "1001610162", "0001610162"};
        for (String field : fields) {
            due("3f00" + field, "0 -1");
            due(field + "3f00", "3 1");
        }
        due(Trial.many("20", 40), "0 -1");
    }

    private static void eachLimitPutsTheLimit() {
        Trial.holds("terms", "each puts the limit, and entries over it go");
        Trial t = trial();
        t.unpack("4001610162" + "4001630164" + "4001650166");
        Trial.due("as much as there is", t.unpack("3f47") + " " + t.table(1), "0 -1 e=f c=d a=b 102/102");
        Trial.due("one less", t.unpack("3f46") + " " + t.table(1), "0 -1 e=f c=d 68/101");
        Trial.due("more", t.unpack("3fe11f") + " " + t.table(1), "0 -1 e=f c=d 68/4096");
        Trial.due("less, then more", t.unpack("3f03" + "3f46") + " " + t.table(1), "0 -1 e=f 34/101");
        Trial.due("its last", t.unpack("83") + " " + t.list() + " " + t.unpack("84"), "0 -1 e=f 2 0");
        Trial.due("none, then more, and fields", t.unpack("20" + "3f03" + "4001670168" + "83") + " " + t.table(1),
            "0 -1 g=h 34/34");
        Trial.due("packing side", t.table(0), "0/256");
        Trial.due("fixed entries stay at the limit 0", t.unpack("20" + "8182") + " " + t.list(), "0 -1 n=v m=w");
        Trial.due("one that went is at no place", t.unpack("83"), "2 0");
    }

    private static void theSameFixedEntries() {
        Trial.holds("terms", "PACKED by the one side, with its table, UNPACKED by the other one, with its own; "
            + "the fixed entries are the same.");
        Trial t = trial().field("n", "v").field("m", "x");
        Trial.due("packed", t.pack(), "81" + "420178");
        Trial.due("the tables are apart", t.table(0) + " " + t.table(1), "m=x 34/256 0/256");
        Trial.due("unpacked", t.around() + " " + t.table(1), "0 -1 m=x 34/256");
        t.unpack("40016100" + "20");
        t.unpack("40016100");
        Trial.due("the tables are apart", t.table(0) + " " + t.table(1), "m=x 34/256 a= m=x 67/256");
        t.limit(0);
        Trial.due("the limits are apart", t.table(0) + " " + t.table(1), "0/0 a= m=x 67/256");
        t.unpack("3f02");
        Trial.due("the limits are apart", t.table(0) + " " + t.table(1), "0/0 a= 33/33");
    }

    /** Parts of every kind, each cut behind every byte of it but the last. */
    private static void bytesEndAnywhere() {
        Trial.holds("terms", "1 the bytes end");
        String[] parts = {"ff80808000", "4001610162", "41026162", "7f80808000", "40825295825295", "418552945294ff",
            "1001610162", "11026162", "1f808000", "0001610162", "01026162", "0f8000",
            "407f03" + Trial.many("5a", 130) + "7f00" + Trial.many("5a", 127),
            "40fe" + Trial.many("ff", 126) + "ff00" + Trial.many("ff", 127)};
        for (String part : parts) {
            dueCut("", part, 0);
            dueCut("20", part, 0);
            dueCut("8181", part, 2);
        }
        dueCut("", "3fe11f", 0);
        dueCut("", "3f80808000", 0);
        dueCut("8181", "3f80808000", 2);
    }

    private static void dueCut(String before, String part, int place) {
        for (int bytes = 1; bytes < part.length() / 2; bytes++) {
            due(before + part.substring(0, 2 * bytes), "1 " + place);
        }
    }

    private static void bytesEndAfterAll() {
        Trial.holds("terms", "1 the bytes end");
        due("", "0 -1");
        due("4000" + "00", "0 -1");
        due("40" + "80" + "80", "0 -1");
        due("41" + "7f49" + Trial.many("5a", 200), "0 -1");
        due("41" + "7f49" + Trial.many("5a", 199), "1 0");
        due("41" + "fd" + Trial.many("00", 125), "0 -1");
        due("41" + "fd" + Trial.many("00", 124), "1 0");
        due("41" + "01", "1 0");
        due("41" + "81", "1 0");
        due("41", "1 0");
        due("40" + "00", "1 0");
    }

    private static void placesAtWhichNothingIs() {
        Trial.holds("terms", "2 a place at which nothing is");
        String[] kinds = {"8", "4", "1", "0"};
        for (String kind : kinds) {
            String rest = kind.equals("8") ? "" : "00";
            due(kind + "1" + rest, "0 -1");
            due(kind + "2" + rest, "0 -1");
            due(kind + "3" + rest, "2 0");
            due("400000" + kind + "3" + rest, "0 -1");
            due("400000" + kind + "4" + rest, "2 1");
            Trial.due("no fixed entries", new Trial().unpack(kind + "1" + rest), "2 0");
        }
        due("0001610162" + "83", "2 1");
        due("1001610162" + "83", "2 1");
        due("20" + "4001610162" + "83", "2 1");
        due("3f03" + "4001610162" + "4001630164" + "84", "2 2");
        due("3f03" + "4001610162" + "4001630164" + "83", "0 -1");
        due("3f04" + "4001610162" + "40" + "7f00" + Trial.many("5a", 127) + "00" + "83", "2 2");
        due("43", "2 0");
        due("4401", "2 0");
    }

    private static void placeNoughtForAWholeField() {
        Trial.holds("terms", "or 0 for a whole field");
        due("80", "2 0");
        due("8180", "2 1");
        due("81", "0 -1");
        due("400000", "0 -1");
        due("100000", "0 -1");
        due("000000", "0 -1");
        Trial.due("no entries at all", new Trial().unpack("80"), "2 0");
    }

    private static void placesFarOff() {
        Trial.holds("terms", "2 a place at which nothing is");
        due("ff00", "2 0");
        due("ff7f", "2 0");
        due("ff8000", "2 0");
        due("fe", "2 0");
        due("ffa18c06", "2 0");
        for (String kind : TEXT_KINDS) {
            due(kind + "00" + "00", "2 0");
            due(kind + "7f" + "00", "2 0");
            due(kind + "808080" + "00" + "00", "2 0");
        }
    }

    private static void limitBehindAField() {
        Trial.holds("terms", "3 a limit behind a field .. "
            + "(both looked at when all of its number is there, 1 and 4 of that first)");
        due("81" + "20", "3 1");
        due("81" + "3e", "3 1");
        due("81" + "3f00", "3 1");
        due("81" + "3f", "1 1");
        due("81" + "3f80", "1 1");
        due("81" + "3f808080", "1 1");
        due("81" + "3f80808000", "3 1");
        due("81" + "3f80808080", "4 1");
        due("81" + "3f818d06", "3 1");
        due("81" + "3f828d06", "4 1");
        due(Trial.many("81", 60) + "20", "3 60");
    }

    private static void limitOverItsBound() {
        Trial.holds("terms", "or over 4096 (both looked at when all of its number is there, 1 and 4 of that first)");
        due("3fe01f", "0 -1");
        due("3fe11f", "0 -1");
        due("3fe21f", "3 0");
        due("3fe31f", "3 0");
        due("3fe19f8000", "0 -1");
        due("3fe29f8000", "3 0");
        due("3fe29f80", "1 0");
        due("3fe29f8080", "4 0");
        due("3f818d06", "3 0");
        due("3f828d06", "4 0");
        due("20" + "3fe21f", "3 0");
        due("3fe21f" + "81", "3 0");
    }

    private static void numberWithAFourthByte() {
        Trial.holds("terms", "4 a number of which the fourth byte behind its first one is not its last");
        for (String number : NUMBERS) {
            due(number + "808080", "1 0");
            due(number + "80808080", "4 0");
            due(number + "8080808000", "4 0");
            due(number + "ffffffff", "4 0");
            due("8181" + number + "80808080", "4 2");
        }
        due("3f80808000", "0 -1");
        due("41" + "7f80808000" + Trial.many("5a", 127), "0 -1");
        due("41" + "ff80808000" + Trial.many("ff", 127), "0 -1");
        due("ff80808000", "2 0");
        due("7f80808000", "2 0");
        due("1f80808000", "2 0");
        due("0f80808000", "2 0");
    }

    /** The bytes behind a first one of so many bits that make the number 100000 and some. */
    private static String more(int bits, int over) {
        int rest = 100000 + over - ((1 << bits) - 1);
        return String.format("%02x%02x%02x", rest & 127 | 128, rest >> 7 & 127 | 128, rest >> 14);
    }

    private static void numberOverItsBound() {
        Trial.holds("terms", "or that is over 100000 (when all of it is there; of any number, ahead of what it stands for)");
        Trial.due("100000 in 7 bits", more(7, 0), "a18c06");
        Trial.due("100001 in 7 bits", more(7, 1), "a28c06");
        String[] numbers = {"ff", "7f", "1f", "0f", "3f", "417f", "41ff"};
        int[] bits = {7, 6, 4, 4, 5, 7, 7};
        String[] at = {"2 0", "2 0", "2 0", "2 0", "3 0", "5 0", "1 0"};
        for (int i = 0; i < numbers.length; i++) {
            due(numbers[i] + more(bits[i], -1), at[i]);
            due(numbers[i] + more(bits[i], 0), at[i]);
            due(numbers[i] + more(bits[i], 1), "4 0");
            due(numbers[i] + more(bits[i], 1).substring(0, 4), "1 0");
            due(numbers[i] + "ffff7f", "4 0");
            due(numbers[i] + "ffffff7f", "4 0");
            due(numbers[i] + "ffffff", "1 0");
            due(numbers[i] + "80808001", "4 0");
        }
    }

    private static void numberAheadOfWhatItStandsFor() {
        Trial.holds("terms", "of any number, ahead of what it stands for");
        due("ff" + more(7, 1), "4 0");
        due("41" + "7f" + more(7, 1), "4 0");
        due("40" + "7f" + more(7, 1), "4 0");
        due("41" + "ff" + more(7, 1) + Trial.many("00", 126), "4 0");
        due("3f" + more(5, 1), "4 0");
        due("81" + "3f" + more(5, 1), "4 1");
        due("7f" + more(6, 1) + "00", "4 0");
    }

    private static void plainTextTooLong() {
        Trial.holds("terms", "5 a text of more than 200 bytes (a plain one by its length");
        String[] before = {"40", "41", "10", "11", "00", "01", "400161", "100161", "000161"};
        for (String texts : before) {
            due(texts + "7f49" + Trial.many("5a", 200) + "00", texts.matches(".0") ? "0 -1" : "1 1");
            due(texts + "7f4a" + Trial.many("5a", 201) + "00", "5 0");
            due(texts + "7f4a", "5 0");
            due(texts + "7f49", "1 0");
            due(texts + "7fca00", "5 0");
            due(texts + "7fc900", "1 0");
            due("8181" + texts + "7f4a", "5 2");
        }
    }

    private static void tightTextTooLong() {
        Trial.holds("terms", "5 a text of more than 200 bytes .. a tight one when all of its bytes are there)");
        due("41" + "fd" + Trial.many("00", 125), "0 -1");
        due("41" + "fe" + Trial.many("00", 125) + "07", "5 0");
        due("41" + "fe" + Trial.many("00", 126), "5 0");
        due("41" + "fe" + Trial.many("00", 125), "1 0");
        due("40" + "fe" + Trial.many("00", 126), "5 0");
        due("40" + "fe" + Trial.many("00", 125), "1 0");
        due("8181" + "400161" + "fe" + Trial.many("00", 126), "5 2");
        String most = Trial.many("Z", 200);
        dueList("41" + Trial.tight(most), "n=" + most);
        due("41" + Trial.tight(most + "Z"), "5 0");
        due("41" + Trial.tight(most + "a"), "5 0");
        due("41" + Trial.tight(Trial.many("a", 199) + "Z"), "0 -1");
        due("41" + Trial.tight(Trial.many("a", 200) + "Z"), "5 0");
        due("41" + "ffc97f" + Trial.many("00", 300), "1 0");
        due("41" + "ff8101" + Trial.many("00", 256), "5 0");
    }

    private static void tightBitsLeft() {
        Trial.holds("terms", "6 tight bits that do not end well: what is left is 8 bits or more, or not all ones");
        dueList("41" + "80", "n=");
        // none to seven bits are left behind so many signs of five bits
        dueList("41" + "85" + "5294a5294a", "n=aaaaaaaa");
        dueLeft("82" + "5295", "aaa", "82" + "5294");
        dueLeft("84" + "5294a52b", "aaaaaa", "84" + "5294a52a", "84" + "5294a529", "84" + "5294a528");
        dueLeft("81" + "57", "a", "81" + "56", "81" + "55", "81" + "53", "81" + "50");
        dueLeft("83" + "5294af", "aaaa", "83" + "5294ae", "83" + "5294ad", "83" + "5294ab", "83" + "5294a7");
        dueList("41" + "85" + "5294a5295f", "n=aaaaaaa");
        dueList("41" + "85" + "5294a5295e", "n=aaaaaaa,");
        dueLeft("82" + "52bf", "aa", "82" + "52be");
        dueLeft("84" + "5294a57f", "aaaaa", "84" + "5294a57e", "84" + "5294a57d", "84" + "5294a57c");
        // five ones and less than eight bits behind them: eight to twelve bits are left
        due("41" + "81" + "ff", "6 0");
        due("41" + "81" + "f8", "6 0");
        due("41" + "83" + "5295ff", "6 0");
        due("41" + "85" + "5294a52bff", "6 0");
        due("41" + "82" + "57ff", "6 0");
        due("41" + "84" + "5294afff", "6 0");
        due("41" + "86" + "5294a5294a" + "ff", "6 0");
        // thirteen bits with five ones in front are a byte of any kind
        dueList("41" + "82" + "ffff", "n=\u00ff");
        dueList("41" + "82" + "f807", "n=\0");
        dueList("41" + "86" + "5294a5295f" + "ff", "n=aaaaaaa\u00ff");
        dueList("41" + "83" + "52bfff", "n=aa\u00ff");
        due("41" + "82" + "f806", "6 0");
        due("41" + "82" + "fffb", "6 0");
        due("40" + "81" + "ff" + "00", "6 0");
        due("8181" + "10" + "0161" + "81" + "ff", "6 2");
    }

    private static void dueLeft(String well, String want, String... badly) {
        dueList("41" + well, "n=" + want);
        dueList("40" + well + "00", want + "=");
        for (String hex : badly) {
            due("41" + hex, "6 0");
            due("40" + hex + "00", "6 0");
        }
    }

    private static void sixtyFirstField() {
        Trial.holds("terms", "7 a 61st field (as soon as it begins)");
        String most = Trial.many("81", 60);
        due(Trial.many("81", 59), "0 -1");
        due(most, "0 -1");
        for (String begins : new String[] {"81", "80", "ff", "40", "7f80808080", "1f", "10", "00", "0f", "43", "41fe"}) {
            due(most + begins, "7 60");
        }
        due("2020" + most, "0 -1");
        due("2020" + most + "81", "7 60");
        due(Trial.many("400000", 60), "0 -1");
        due(Trial.many("400000", 61), "7 60");
        due(Trial.many("100000", 60), "0 -1");
        due(Trial.many("100000", 61), "7 60");
        due(Trial.many("000000", 60), "0 -1");
        due(Trial.many("000000", 61), "7 60");
    }

    private static void theFirstFaultMet() {
        Trial.holds("terms", "FAULTS, the first one met");
        due("80" + "ff80808080", "2 0");
        due("417f4a" + "80", "5 0");
        due("4181ff" + "20", "6 0");
        due("3fe21f" + "80", "3 0");
        due("43" + "7f4a", "2 0");
        due("43" + "81ff", "2 0");
        due("43", "2 0");
        due("40" + "7f4a" + "81ff", "5 0");
        due("40" + "81ff" + "7f4a", "6 0");
        due("40" + "0161" + "82ff", "1 0");
        due("41" + "fe" + Trial.many("00", 125) + "f8", "6 0");
        due("41" + "ff00" + Trial.many("00", 126) + "ff", "5 0");
        due(Trial.many("81", 60) + "3f80808080", "4 60");
        due(Trial.many("81", 60) + "3f", "1 60");
        due(Trial.many("81", 59) + "80" + "81", "2 59");
    }

    private static void nothingIsChanged() {
        Trial.holds("terms", "With a fault nothing is changed.");
        String[] faults = {"ff", "80", "81" + "20", "ff80808080", "417f4a", "4181ff", Trial.many("400000", 59)};
        for (int i = 0; i < faults.length; i++) {
            int fault = i + 1;
            String hex = "20" + "3f8001" + "4001780179" + "4001780179" + faults[i];
            Twins.dueNothing("fault " + fault, FaultEdgeTest::muchDone, x -> {
                Trial.due("fault of its block", faultOf(x, hex), fault);
                // the place, the loaded bytes and the end of fixed entries are the unpacking's own: alike by one more
                return faultOf(x, "80");
            }, 2);
        }
    }

    /** Both tables have entries and limits of their own; one fault went before, with its place. */
    private static void muchDone(Trial t) {
        t.fixed("n", "v").field("a", "1").field("b", "2").limit(120);
        t.pack();
        t.around();
        t.limit(90).limit(100).secret("s", "3").name("next").type("typed");
        faultOf(t.x, "80");
    }

    private static int faultOf(Counted x, String hex) {
        for (int from = 0; from < hex.length(); from += 2) {
            x.load(Integer.parseInt(hex.substring(from, from + 2), 16), 1);
        }
        return x.unpack();
    }
}
