import java.lang.management.ManagementFactory;

/**
 * All calls of one run live in one room of some 600,000 objects and 7.3 million
 * fields and elements. Runs of 512 calls of the dearest kinds are held to a
 * small share of it, counted in bytes: an element or a field has 4 of them here.
 */
public final class RoomTest {
    private static final long MOST_BYTES = 1_000_000;
    private static final int CALLS = 512;
    private static final int SETUP_CALLS = 65;
    private static final com.sun.management.ThreadMXBean THREADS =
        (com.sun.management.ThreadMXBean) ManagementFactory.getThreadMXBean();

    private static int sink = 0;

    public static void main(String[] args) {
        String[] kinds = {"new", "add", "pack refused", "check", "signer", "open refused", "take and drop",
            "take and join", "find and read", "open"};
        for (int kind = 0; kind < kinds.length; kind++) {
            run(kind);
            long before = THREADS.getCurrentThreadAllocatedBytes();
            run(kind);
            long made = THREADS.getCurrentThreadAllocatedBytes() - before;
            Due.isTrue("room: " + kinds[kind] + " makes " + made + " bytes", made < MOST_BYTES);
        }
        Due.isTrue("room: calls were made", sink != 0);
        Due.end("RoomTest");
    }

    private static void run(int kind) {
        PackPost x = new PackPost();
        wideDraft(x, 4);
        sink += x.pack(9) + 1;
        int filled = kind == 2 ? 8 : 0;
        if (filled > 0) {
            wideDraft(x, filled);
        }
        if (kind == 5) {
            x.draft(1, 0, 0);
            x.need(60, 0, true);
            x.pack(0);
        }
        for (int i = 0; i < (CALLS - SETUP_CALLS) / callsOf(kind); i++) {
            sink += one(x, kind, i);
        }
    }

    /** Rows that no packing makes short. */
    private static void wideDraft(PackPost x, int rows) {
        x.draft(0, 0, 0);
        for (int r = 0; r < rows; r++) {
            x.row(r, r % 3);
            for (int i = 0; i < 3; i++) {
                x.add(50 * r + i, 7 * i, 90 + r, 10 * r + i, 2 * i + 200);
            }
            x.again(15, 105);
        }
    }

    private static int callsOf(int kind) {
        return kind == 6 || kind == 8 ? 3 : kind == 7 ? 2 : 1;
    }

    private static int one(PackPost x, int kind, int i) {
        switch (kind) {
            case 1:
                return x.add(1, 2, 3, 4, 5);
            case 2:
                return x.pack(5);
            case 3:
                return x.check(0);
            case 4:
                return x.signer(0, 9);
            case 5:
                return x.open(1, 0);
            case 6:
                return x.load(0, 100, 0) + x.take() + x.drop(0);
            case 7:
                return x.load(0, 100, i % 5) + x.take();
            case 8:
                return x.find(0, 3) + x.read(0, 2, i % 120) + x.path(0, 3, 0);
            case 9:
                return x.open(0, 9);
            default:
                return x.length(0);
        }
    }
}
