import java.nio.charset.StandardCharsets;

/** A FieldPacker with shorthands for tests; texts are Latin-1, so a character is a byte. */
final class Trial {
    static final String SIGNS = "0123456789aceilnorstdhmpu-./:=,";
    private static int wrong = 0;
    private static String sentence = "";
    final Counted x = new Counted();

    /** The sentence that the answers which come are held to; it is told with each that is not as due. */
    static void holds(String where, String words) {
        sentence = where + " \"" + words + "\": ";
    }

    static void due(String what, long got, long want) {
        due(what, Long.toString(got), Long.toString(want));
    }

    static void due(String what, String got, String want) {
        if (!got.equals(want)) {
            wrong++;
            System.out.println(sentence + what + " answered " + got + ", due is " + want);
        }
    }

    static void end() {
        System.out.println(wrong == 0 ? "all answers are as due" : wrong + " answers are not as due");
        if (wrong != 0) {
            System.exit(1);
        }
    }

    static String many(String text, int times) {
        return text.repeat(times);
    }

    static String hexOf(String text) {
        StringBuilder hex = new StringBuilder();
        for (byte b : text.getBytes(StandardCharsets.ISO_8859_1)) {
            hex.append(String.format("%02x", b));
        }
        return hex.toString();
    }

    /** A text in its tight form, by bits written one behind the other. */
    static String tight(String text) {
        StringBuilder bits = new StringBuilder();
        for (char c : text.toCharArray()) {
            int sign = SIGNS.indexOf(c);
            bits.append(sign < 0 ? "11111" + binary(c, 8) : binary(sign, 5));
        }
        while (bits.length() % 8 != 0) {
            bits.append('1');
        }
        int bytes = bits.length() / 8;
        StringBuilder hex = new StringBuilder(String.format("%02x", 128 + Math.min(bytes, 127)));
        if (bytes >= 127) {
            int more = bytes - 127;
            hex.append(more < 128 ? String.format("%02x", more) : String.format("%02x%02x", 128 + more % 128, more / 128));
        }
        for (int i = 0; i < bits.length(); i += 8) {
            hex.append(String.format("%02x", Integer.parseInt(bits.substring(i, i + 8), 2)));
        }
        return hex.toString();
    }

    private static String binary(int number, int bits) {
        StringBuilder all = new StringBuilder();
        for (int i = bits - 1; i >= 0; i--) {
            all.append(number >> i & 1);
        }
        return all.toString();
    }

    Trial type(String text) {
        byte[] bytes = text.getBytes(StandardCharsets.ISO_8859_1);
        for (int from = 0; from < bytes.length; from += 8) {
            int n = Math.min(8, bytes.length - from);
            x.type(join(bytes, from, n), n);
        }
        return this;
    }

    Trial name(String name) {
        type(name);
        x.name();
        return this;
    }

    Trial fixed(String name, String value) {
        name(name).type(value);
        x.fixed();
        return this;
    }

    Trial field(String name, String value) {
        name(name).type(value);
        x.field(0);
        return this;
    }

    Trial secret(String name, String value) {
        name(name).type(value);
        x.field(1);
        return this;
    }

    Trial limit(int n) {
        x.limit(n);
        return this;
    }

    Trial drop() {
        x.drop();
        return this;
    }

    /** Packs, and tells the block in hex, or the answer when it is less than 0. */
    String pack() {
        int n = x.pack();
        return n < 0 ? Integer.toString(n) : block();
    }

    String block() {
        StringBuilder hex = new StringBuilder();
        int b = x.packed(0);
        for (int k = 1; b >= 0; k++) {
            hex.append(String.format("%02x", b));
            b = x.packed(k);
        }
        return hex.toString();
    }

    Trial load(String hex) {
        String plain = hex.replace(" ", "");
        byte[] bytes = new byte[plain.length() / 2];
        for (int i = 0; i < bytes.length; i++) {
            bytes[i] = (byte) Integer.parseInt(plain.substring(2 * i, 2 * i + 2), 16);
        }
        for (int from = 0; from < bytes.length; from += 8) {
            int n = Math.min(8, bytes.length - from);
            x.load(join(bytes, from, n), n);
        }
        return this;
    }

    /** Unpacks a block, and tells the answer and place(): "0 -1" when it was well. */
    String unpack(String hex) {
        load(hex);
        return x.unpack() + " " + x.place();
    }

    /** Unpacks what has just been packed. */
    String around() {
        x.loop();
        return x.unpack() + " " + x.place();
    }

    /** The list as name=value, a secret one with a star in front. */
    String list() {
        StringBuilder all = new StringBuilder();
        int fields = x.count(0);
        for (int i = 0; i < fields; i++) {
            all.append(i == 0 ? "" : " ").append(x.about(i, 2) == 1 ? "*" : "");
            all.append(part(i, 0)).append('=').append(part(i, 1));
        }
        return all.toString();
    }

    /** A field's name (part 0) or value (1). */
    private String part(int i, int part) {
        StringBuilder text = new StringBuilder();
        int length = x.about(i, part);
        for (int k = 0; k < length; k++) {
            text.append((char) x.byteOf(i, part, k));
        }
        return text.toString();
    }

    /** A side's table as name=value, the newest first, then sizes together / limit. */
    String table(int side) {
        StringBuilder all = new StringBuilder();
        int entries = x.table(side, 0);
        for (int i = 0; i < entries; i++) {
            all.append(entryPart(side, i, 0)).append('=').append(entryPart(side, i, 1)).append(' ');
        }
        return all.append(x.table(side, 1)).append('/').append(x.table(side, 2)).toString();
    }

    private String entryPart(int side, int i, int part) {
        StringBuilder text = new StringBuilder();
        int b = x.entryByte(side, i, part, 0);
        for (int k = 1; b >= 0; k++) {
            text.append((char) b);
            b = x.entryByte(side, i, part, k);
        }
        return text.toString();
    }

    private static long join(byte[] bytes, int from, int n) {
        long joined = 0;
        for (int i = from; i < from + n; i++) {
            joined = joined << 8 | bytes[i] & 255;
        }
        return joined;
    }
}
