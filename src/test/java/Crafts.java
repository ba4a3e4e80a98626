import java.util.Arrays;

/** Makes rows of bytes that no draft would write, by the public calls alone. */
final class Crafts {
    /** The most bytes that craft() can lay out in one pack. */
    static final int CRAFT_MOST = 500;
    private static final int ROWS = 5;

    private Crafts() {
    }

    static int sum(int start, int[] bytes, int end) {
        long s = start & 0xffffffffL;
        for (int i = 0; i < end; i++) {
            s ^= bytes[i];
            long high = s / (1L << 21);
            long low = s % (1L << 21);
            s = low * (1L << 11) + high;
            s = s * 16777619L % (1L << 32);
        }
        return (int) s;
    }

    static int[] join(int[] first, int... second) {
        int[] all = Arrays.copyOf(first, first.length + second.length);
        System.arraycopy(second, 0, all, first.length, second.length);
        return all;
    }

    static int[] four(int n) {
        return new int[] {n >>> 24, n >>> 16 & 255, n >>> 8 & 255, n & 255};
    }

    static int[] summed(int... bytes) {
        return join(bytes, four(sum(1, bytes, bytes.length)));
    }

    static int[] signed(int secret, int... summed) {
        return join(summed, four(sum(secret, summed, summed.length)));
    }

    /** A draft of rows by packing 0, each of 120 bytes, and a last one of fewer. */
    static void longDraft(PackPost x, int rows, int last) {
        x.draft(0, 0, 0);
        for (int r = 0; r <= rows; r++) {
            x.row(r, 0);
            x.add(r, -1, -1, -1, -1);
            x.again(1, (r < rows ? 120 : last) - 1);
        }
    }

    /** The numbers next to least .. most on either side, and the farthest ones. */
    static int[] beyond(int least, int most) {
        return new int[] {least - 1, most + 1, Integer.MIN_VALUE, Integer.MAX_VALUE};
    }

    /** A pack more of the first n bytes (1 .. 700) of one whose pages change from byte to byte: its number. */
    static int packOf(PackPost x, int n) {
        x.draft(0, 0, 0);
        for (int r = 0; r < 6; r++) {
            x.row(r, 0);
            x.add(7 * r + 1, 40 * r, 255 - r, 3, 90 + r);
            x.again(5, r < 5 ? 115 : 47);
        }
        int p = x.pack(0);
        x.trim(p, n);
        return p;
    }

    /** The 700 bytes that packOf() cuts. */
    static int[] bytesOfPack() {
        int[] bytes = {80, 75, 0, 0, 0, 0, 0, 6};
        for (int r = 0; r < 6; r++) {
            int length = r < 5 ? 120 : 52;
            bytes = join(bytes, r, 0, 0, length, 0, length);
        }
        for (int r = 0; r < 6; r++) {
            int[] five = {7 * r + 1, 40 * r, 255 - r, 3, 90 + r};
            for (int i = 0; i < (r < 5 ? 120 : 52); i++) {
                bytes = join(bytes, five[i % 5]);
            }
        }
        return summed(bytes);
    }

    /** So many packs more, each of 12 bytes. */
    static void smallPacks(PackPost x, int n) {
        for (int i = 0; i < n; i++) {
            x.draft(0, 0, 0);
            x.pack(0);
        }
    }

    /** A pack more of just these bytes (1 .. CRAFT_MOST): its number. */
    static int craft(PackPost x, int... bytes) {
        int rows = 1 + bytes.length / 130;
        if (rows > ROWS || bytes.length < 1) {
            throw new IllegalArgumentException("too many bytes to craft");
        }
        x.draft(0, 0, 0);
        int[] base = {80, 75, 0, 0, 0, 0, 0, rows};
        for (int r = 0; r < rows; r++) {
            x.row(r, 0);
            x.add(0, -1, -1, -1, -1);
            x.again(1, 119);
            base = join(base, r, 0, 0, 120, 0, 120);
        }
        base = Arrays.copyOf(base, base.length + 120 * rows);
        int p = x.pack(0);
        x.trim(p, bytes.length);
        for (int i = 0; i < bytes.length; i++) {
            if (bytes[i] != base[i]) {
                x.spoil(p, i, bytes[i] ^ base[i]);
            }
        }
        return p;
    }

    /** Opens a pack of this name and edition, with rows of these keys whose only byte is the name. */
    static int put(PackPost x, int name, int edition, int manner, int[] needs, int... keys) {
        x.draft(name, edition, manner);
        for (int need : needs) {
            x.need(need, 99, false);
        }
        for (int key : keys) {
            x.row(key, 0);
            x.add(name, -1, -1, -1, -1);
        }
        return x.open(x.pack(0), 0);
    }

    static int[] needs(int... names) {
        return names;
    }

    /** What check() answers for these bytes. */
    static int checkOf(int... bytes) {
        PackPost x = new PackPost();
        return x.check(craft(x, bytes));
    }

    /** Makes the tape's SUM right again after bends. */
    static void resumTape(PackPost x) {
        int n = 0;
        int[] bytes = new int[108];
        while (n < 108 && x.tape(n) >= 0) {
            bytes[n] = x.tape(n);
            n++;
        }
        int[] due = four(sum(2, bytes, n - 4));
        for (int i = 0; i < 4; i++) {
            int mask = due[i] ^ bytes[n - 4 + i];
            if (mask != 0) {
                x.bend(n - 4 + i, mask);
            }
        }
    }

    /** All of THE PATH of a key from an entry, and none behind it. */
    static void pathIs(String what, PackPost x, int e, int key, int... due) {
        for (int i = 0; i < due.length; i++) {
            Due.is(what + ": path " + i, x.path(e, key, i), due[i]);
        }
        Due.is(what + ": path behind", x.path(e, key, due.length), -1);
    }

    static void sameBytes(String what, PackPost x, int p, int... want) {
        Due.is(what + " length", x.length(p), want.length);
        for (int i = 0; i < want.length; i++) {
            Due.is(what + " octet " + i, x.octet(p, i), want[i]);
        }
        Due.is(what + " octet behind", x.octet(p, want.length), -1);
    }
}
