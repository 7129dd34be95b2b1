import java.lang.management.ManagementFactory;

/** The dearest runs of 512 calls stay far inside the room that all calls of a run share. */
public final class RoomTest {
    /** A cell takes 4 bytes, so this is room for 5 of the 7.3 million, the objects' headers counted too. */
    private static final long MOST_BYTES = 20_000_000L;

    public static void main(String[] args) {
        tightBlocksAgainAndAgain();
        plainBlocksAgainAndAgain();
        objectsAlone();
        Trial.end();
    }

    private static long made() {
        return ((com.sun.management.ThreadMXBean) ManagementFactory.getThreadMXBean())
            .getThreadAllocatedBytes(Thread.currentThread().getId());
    }

    private static void due(String what, long before) {
        long made = made() - before;
        System.out.println(what + ": " + made + " bytes made");
        Trial.due(what + " fits", made <= MOST_BYTES ? 1 : 0, 1);
    }

    /** Texts of 200 bytes in 125: what is unpacked is larger than the block. */
    private static void tightBlocksAgainAndAgain() {
        long before = made();
        Counted x = new Counted();
        for (int i = 0; i < 25; i++) {
            x.type(0x6161616161616161L, 8);
        }
        x.name();
        for (int i = 0; i < 46; i++) {
            x.field(1);
        }
        Trial.due("block", x.pack(), 46 * 128);
        again(x, 73);
        due("tight blocks", before);
    }

    private static void plainBlocksAgainAndAgain() {
        long before = made();
        Counted x = new Counted();
        for (int i = 0; i < 60; i++) {
            for (int k = 0; k < 5; k++) {
                x.type(0xfefefefefefefefeL + i, 8);
            }
            x.field(0);
        }
        x.pack();
        x.drop();
        again(x, 362);
        due("plain blocks", before);
    }

    private static void again(Counted x, int calls) {
        for (int i = calls; i + 2 <= 512; i += 2) {
            x.loop();
            Trial.due("unpack", x.unpack(), 0);
        }
    }

    private static void objectsAlone() {
        long before = made();
        int fields = 0;
        for (int i = 0; i < 512; i++) {
            fields += new FieldPacker().count(0);
        }
        Trial.due("no fields", fields, 0);
        due("512 objects", before);
    }
}
