/** A FieldPacker that refuses a test's 513th call: what later calls answer is free, so no test may lean on it. */
final class Counted {
    private static final int MOST_CALLS = 512;
    private final FieldPacker x = new FieldPacker();
    private int calls = 0;

    private FieldPacker next() {
        calls++;
        if (calls > MOST_CALLS) {
            throw new IllegalStateException("the test makes more than " + MOST_CALLS + " calls on one object");
        }
        return x;
    }

    int type(long bytes, int n) {
        return next().type(bytes, n);
    }

    int name() {
        return next().name();
    }

    int fixed() {
        return next().fixed();
    }

    int field(int secret) {
        return next().field(secret);
    }

    int drop() {
        return next().drop();
    }

    int limit(int n) {
        return next().limit(n);
    }

    int pack() {
        return next().pack();
    }

    int packed(int k) {
        return next().packed(k);
    }

    int load(long bytes, int n) {
        return next().load(bytes, n);
    }

    int loop() {
        return next().loop();
    }

    int unpack() {
        return next().unpack();
    }

    int place() {
        return next().place();
    }

    int about(int i, int what) {
        return next().about(i, what);
    }

    int byteOf(int i, int part, int k) {
        return next().byteOf(i, part, k);
    }

    int table(int side, int what) {
        return next().table(side, what);
    }

    int entry(int side, int i) {
        return next().entry(side, i);
    }

    int entryByte(int side, int i, int part, int k) {
        return next().entryByte(side, i, part, k);
    }

    int count(int what) {
        return next().count(what);
    }

    int check() {
        return next().check();
    }
}
