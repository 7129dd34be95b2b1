import java.util.Random;

/** Runs of 512 calls drawn from written seeds: the program answers what the model of the document answers. */
public final class ModelTest {
    private static final int CALLS = 512;
    private static final int RUNS = 3000;
    private static final String[] TEXTS = {"", "a", "b", "name", "value", "x-long/name", "ABC", "0123456789", "aaaa\u00ff",
        "a=b,c=d", "ZZZZZZZZ", "path:/lean/in/the/sun", "\u0000\u0001", "1111111111111111111111111111111111111111"};

    private final Random random;
    private final int run;
    private final Counted x = new Counted();
    private final Model model = new Model();
    private int calls = 0;

    private ModelTest(int run) {
        this.run = run;
        this.random = new Random(run);
    }

    public static void main(String[] args) {
        int[] answers = new int[8];
        for (int run = 0; run < RUNS; run++) {
            new ModelTest(run).run(answers);
        }
        for (int fault = 0; fault < answers.length; fault++) {
            Trial.due("unpack() answered " + fault + " often enough", answers[fault] > 100 ? 1 : 0, 1);
        }
        Trial.end();
    }

    private void due(String call, int got, int want) {
        calls++;
        Trial.due("run " + run + " call " + calls + ": " + call, got, want);
    }

    private int below(int n) {
        return random.nextInt(n);
    }

    private boolean hasCalls(int more) {
        return calls + more <= CALLS;
    }

    private void run(int[] answers) {
        for (int i = below(23); i > 0; i--) {
            words();
            due("fixed()", x.fixed(), model.fixed());
        }
        while (hasCalls(70)) {
            step(answers);
        }
        while (hasCalls(1)) {
            look();
        }
    }

    private void step(int[] answers) {
        switch (below(16)) {
            case 0, 1, 2, 3, 4, 5:
                for (int i = below(5); i >= 0; i--) {
                    oneField();
                }
                break;
            case 6:
                int n = below(3) == 0 ? below(5000) - 400 : below(300);
                due("limit " + n, x.limit(n), model.limit(n));
                break;
            case 7, 8:
                due("pack()", x.pack(), model.pack());
                break;
            case 9, 10:
                due("pack()", x.pack(), model.pack());
                due("loop()", x.loop(), model.loop());
                unpack(answers);
                break;
            case 11:
                changedBlock(answers);
                break;
            case 12, 13:
                madeBlock(answers);
                break;
            case 14:
                due("drop()", x.drop(), model.drop());
                break;
            default:
                rare(answers);
                break;
        }
        look();
    }

    private void rare(int[] answers) {
        switch (below(5)) {
            case 0:
                load((char) 0x41 + "" + (char) (0xfb + below(4)) + "\u0000".repeat(120 + below(8)));
                unpack(answers);
                break;
            case 1:
                for (int i = below(30); i >= 0; i--) {
                    due("field(1)", x.field(1), model.field(1));
                }
                break;
            case 2:
                load("\u0081".repeat(58 + below(4)) + (char) below(256));
                unpack(answers);
                break;
            case 3:
                int n = below(12) - 1;
                long bytes = random.nextLong();
                due("type " + bytes + " " + n, x.type(bytes, n), model.type(bytes, n));
                due("load " + bytes + " " + n, x.load(bytes, n), model.load(bytes, n));
                break;
            default:
                due("fixed()", x.fixed(), model.fixed());
                break;
        }
    }

    private void type(String text) {
        for (int i = 0; i < text.length(); i += 8) {
            String part = text.substring(i, Math.min(text.length(), i + 8));
            long bytes = joined(part);
            due("type " + part, x.type(bytes, part.length()), model.type(bytes, part.length()));
        }
    }

    private void load(String text) {
        for (int i = 0; i < text.length(); i += 8) {
            String part = text.substring(i, Math.min(text.length(), i + 8));
            long bytes = joined(part);
            due("load " + Trial.hexOf(part), x.load(bytes, part.length()), model.load(bytes, part.length()));
        }
    }

    private static long joined(String part) {
        long bytes = 0;
        for (char c : part.toCharArray()) {
            bytes = bytes << 8 | c;
        }
        return bytes;
    }

    private String word() {
        return TEXTS[below(TEXTS.length)];
    }

    private void words() {
        if (below(3) > 0) {
            type(word());
            due("name()", x.name(), model.name());
        }
        type(word());
    }

    private void oneField() {
        words();
        int secret = below(20) == 0 ? below(5) - 2 : below(4) / 3;
        due("field " + secret, x.field(secret), model.field(secret));
    }

    private void unpack(int[] answers) {
        int answer = model.unpack();
        answers[answer]++;
        due("unpack()", x.unpack(), answer);
        due("place()", x.place(), model.place());
    }

    /** The latest block with some bytes changed, or cut, or with more behind it. */
    private void changedBlock(int[] answers) {
        StringBuilder block = new StringBuilder();
        for (int k = 0; k < 200 && model.packed(k) >= 0; k++) {
            block.append((char) model.packed(k));
        }
        if (block.length() > 0 && below(2) == 0) {
            block.setCharAt(below(block.length()), (char) below(256));
        }
        if (below(3) == 0) {
            block.setLength(below(block.length() + 1));
        }
        for (int i = below(4); i > 0; i--) {
            block.append((char) below(256));
        }
        load(block.toString());
        unpack(answers);
    }

    private void madeBlock(int[] answers) {
        StringBuilder block = new StringBuilder();
        for (int i = below(3); i > 0; i--) {
            block.append(number(0x20, 5));
        }
        for (int i = below(8); i > 0; i--) {
            block.append(part());
        }
        load(block.toString());
        unpack(answers);
    }

    private String part() {
        switch (below(9)) {
            case 0, 1, 2:
                return number(0x80, 7);
            case 3, 4, 5:
                return below(2) == 0 ? number(0x40, 6) + text() : (char) 0x40 + text() + text();
            case 6:
                return number(0x10, 4) + text();
            case 7:
                return below(2) == 0 ? number(0, 4) + text() : (char) 0 + text() + text();
            default:
                return below(4) == 0 ? number(0x20, 5) : number(0x80, 7);
        }
    }

    private String number(int mark, int bits) {
        int most = (1 << bits) - 1;
        if (below(8) > 0) {
            return "" + (char) (mark + below(Math.min(most, 26)));
        }
        StringBuilder all = new StringBuilder().append((char) (mark + most));
        for (int i = below(5); i > 0; i--) {
            all.append((char) (128 + below(3) * below(64)));
        }
        return all.append((char) (below(3) * below(64))).toString();
    }

    private String text() {
        int n = below(6);
        StringBuilder all = new StringBuilder();
        if (below(12) == 0) {
            return all.append((char) 127).append((char) below(200)).toString();
        }
        boolean tight = below(2) == 0;
        all.append((char) ((tight ? 128 : 0) + n));
        for (int i = 0; i < n; i++) {
            all.append((char) below(256));
        }
        if (tight && n > 0 && below(3) > 0) {
            all.setCharAt(n, (char) (all.charAt(n) | 255 >> below(8)));
        }
        return all.toString();
    }

    private void look() {
        int i = below(12) - 1;
        int j = below(4) - 1;
        int k = below(10) - 1;
        int side = below(10) == 0 ? below(5) - 2 : below(2);
        switch (below(9)) {
            case 0:
                due("about", x.about(i, j), model.about(i, j));
                break;
            case 1:
                due("byteOf", x.byteOf(i, j, k), model.byteOf(i, j, k));
                break;
            case 2, 3:
                due("table", x.table(side, j), model.table(side, j));
                break;
            case 4:
                due("entry", x.entry(side, i), model.entry(side, i));
                break;
            case 5:
                due("entryByte", x.entryByte(side, i, j, k), model.entryByte(side, i, j, k));
                break;
            case 6:
                due("count", x.count(k), model.count(k));
                break;
            case 7:
                int at = below(Math.max(1, model.count(4)) + 2) - 1;
                due("packed " + at, x.packed(at), model.packed(at));
                break;
            default:
                due("check()", x.check(), model.check());
                break;
        }
    }
}
