import java.nio.charset.StandardCharsets;

/** A FieldPacker with shorthands for tests; texts are Latin-1, so a character is a byte. */
final class Trial {
    private static int wrong = 0;
    final FieldPacker x = new FieldPacker();

    static void due(String what, long got, long want) {
        due(what, Long.toString(got), Long.toString(want));
    }

    static void due(String what, String got, String want) {
        if (!got.equals(want)) {
            wrong++;
            System.out.println(what + " answered " + got + ", due is " + want);
        }
    }

    static void end() {
        System.out.println(wrong == 0 ? "all answers are as due" : wrong + " answers are not as due");
        if (wrong != 0) {
            System.exit(1);
        }
    }

    static String many(String text, int times) {
        return text.repeat(times);
    }

    static String hexOf(String text) {
        StringBuilder hex = new StringBuilder();
        for (byte b : text.getBytes(StandardCharsets.ISO_8859_1)) {
            hex.append(String.format("%02x", b));
        }
        return hex.toString();
    }

    Trial type(String text) {
        byte[] bytes = text.getBytes(StandardCharsets.ISO_8859_1);
        for (int from = 0; from < bytes.length; from += 8) {
            int n = Math.min(8, bytes.length - from);
            x.type(join(bytes, from, n), n);
        }
        return this;
    }

    Trial name(String name) {
        type(name);
        x.name();
        return this;
    }

    Trial fixed(String name, String value) {
        name(name).type(value);
        x.fixed();
        return this;
    }

    Trial field(String name, String value) {
        name(name).type(value);
        x.field(0);
        return this;
    }

    Trial secret(String name, String value) {
        name(name).type(value);
        x.field(1);
        return this;
    }

    Trial limit(int n) {
        x.limit(n);
        return this;
    }

    Trial drop() {
        x.drop();
        return this;
    }

    /** Packs, and tells the block in hex, or the answer when it is less than 0. */
    String pack() {
        int n = x.pack();
        return n < 0 ? Integer.toString(n) : block();
    }

    String block() {
        StringBuilder hex = new StringBuilder();
        for (int k = 0; x.packed(k) >= 0; k++) {
            hex.append(String.format("%02x", x.packed(k)));
        }
        return hex.toString();
    }

    Trial load(String hex) {
        String plain = hex.replace(" ", "");
        byte[] bytes = new byte[plain.length() / 2];
        for (int i = 0; i < bytes.length; i++) {
            bytes[i] = (byte) Integer.parseInt(plain.substring(2 * i, 2 * i + 2), 16);
        }
        for (int from = 0; from < bytes.length; from += 8) {
            int n = Math.min(8, bytes.length - from);
            x.load(join(bytes, from, n), n);
        }
        return this;
    }

    /** Unpacks a block, and tells the answer and place(): "0 -1" when it was well. */
    String unpack(String hex) {
        load(hex);
        return x.unpack() + " " + x.place();
    }

    /** Unpacks what has just been packed. */
    String around() {
        x.loop();
        return x.unpack() + " " + x.place();
    }

    /** The list as name=value, a secret one with a star in front. */
    String list() {
        StringBuilder all = new StringBuilder();
        for (int i = 0; x.about(i, 0) >= 0; i++) {
            all.append(i == 0 ? "" : " ").append(x.about(i, 2) == 1 ? "*" : "");
            for (int k = 0; k < x.about(i, 0); k++) {
                all.append((char) x.byteOf(i, 0, k));
            }
            all.append('=');
            for (int k = 0; k < x.about(i, 1); k++) {
                all.append((char) x.byteOf(i, 1, k));
            }
        }
        return all.toString();
    }

    /** A side's table as name=value, the newest first, then sizes together / limit. */
    String table(int side) {
        StringBuilder all = new StringBuilder();
        for (int i = 0; i < x.table(side, 0); i++) {
            for (int part = 0; part < 2; part++) {
                for (int k = 0; x.entryByte(side, i, part, k) >= 0; k++) {
                    all.append((char) x.entryByte(side, i, part, k));
                }
                all.append(part == 0 ? '=' : ' ');
            }
        }
        return all.append(x.table(side, 1)).append('/').append(x.table(side, 2)).toString();
    }

    private static long join(byte[] bytes, int from, int n) {
        long joined = 0;
        for (int i = from; i < from + n; i++) {
            joined = joined << 8 | bytes[i] & 255;
        }
        return joined;
    }
}
