import java.util.Arrays;

/** Makes rows of bytes that no draft would write, by the public calls alone. */
final class Crafts {
    /** The most bytes that craft() can lay out in one pack. */
    static final int CRAFT_MOST = 500;
    private static final int ROWS = 5;

    private Crafts() {
    }

    static int sum(int start, int[] bytes, int end) {
        long s = start & 0xffffffffL;
        for (int i = 0; i < end; i++) {
            s ^= bytes[i];
            long high = s / (1L << 21);
            long low = s % (1L << 21);
            s = low * (1L << 11) + high;
            s = s * 16777619L % (1L << 32);
        }
        return (int) s;
    }

    static int[] join(int[] first, int... second) {
        int[] all = Arrays.copyOf(first, first.length + second.length);
        System.arraycopy(second, 0, all, first.length, second.length);
        return all;
    }

    static int[] four(int n) {
        return new int[] {n >>> 24, n >>> 16 & 255, n >>> 8 & 255, n & 255};
    }

    static int[] summed(int... bytes) {
        return join(bytes, four(sum(1, bytes, bytes.length)));
    }

    static int[] signed(int secret, int... summed) {
        return join(summed, four(sum(secret, summed, summed.length)));
    }

    /** A draft of rows by packing 0, each of 120 bytes, and a last one of fewer. */
    static void longDraft(PackPost x, int rows, int last) {
        x.draft(0, 0, 0);
        for (int r = 0; r <= rows; r++) {
            x.row(r, 0);
            x.add(r, -1, -1, -1, -1);
            x.again(1, (r < rows ? 120 : last) - 1);
        }
    }

    /** A pack more of just these bytes (1 .. CRAFT_MOST): its number. */
    static int craft(PackPost x, int... bytes) {
        int rows = 1 + bytes.length / 130;
        if (rows > ROWS || bytes.length < 1) {
            throw new IllegalArgumentException("too many bytes to craft");
        }
        x.draft(0, 0, 0);
        int[] base = {80, 75, 0, 0, 0, 0, 0, rows};
        for (int r = 0; r < rows; r++) {
            x.row(r, 0);
            x.add(0, -1, -1, -1, -1);
            x.again(1, 119);
            base = join(base, r, 0, 0, 120, 0, 120);
        }
        base = Arrays.copyOf(base, base.length + 120 * rows);
        int p = x.pack(0);
        x.trim(p, bytes.length);
        for (int i = 0; i < bytes.length; i++) {
            if (bytes[i] != base[i]) {
                x.spoil(p, i, bytes[i] ^ base[i]);
            }
        }
        return p;
    }

    /** What check() answers for these bytes. */
    static int checkOf(int... bytes) {
        PackPost x = new PackPost();
        return x.check(craft(x, bytes));
    }

    /** Makes the tape's SUM right again after bends. */
    static void resumTape(PackPost x) {
        int n = 0;
        int[] bytes = new int[108];
        while (n < 108 && x.tape(n) >= 0) {
            bytes[n] = x.tape(n);
            n++;
        }
        int[] due = four(sum(2, bytes, n - 4));
        for (int i = 0; i < 4; i++) {
            int mask = due[i] ^ bytes[n - 4 + i];
            if (mask != 0) {
                x.bend(n - 4 + i, mask);
            }
        }
    }

    static void sameBytes(String what, PackPost x, int p, int... want) {
        Due.is(what + " length", x.length(p), want.length);
        for (int i = 0; i < want.length; i++) {
            Due.is(what + " octet " + i, x.octet(p, i), want[i]);
        }
        Due.is(what + " octet behind", x.octet(p, want.length), -1);
    }
}
