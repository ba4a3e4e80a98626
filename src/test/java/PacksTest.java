import java.util.Arrays;

/** Promises 9 to 14: packs, their bytes, and the places at which they are WRONG. */
public final class PacksTest {
    public static void main(String[] args) {
        lengthAndOctet();
        spoil();
        trim();
        checkHead();
        checkTwice();
        checkPlain();
        checkPairs();
        checkOps();
        checkEnd();
        checkEveryCut();
        checkLimits();
        signer();
        Due.end("PacksTest");
    }

    private static void lengthAndOctet() {
        PackPost x = new PackPost();
        x.draft(1, 2, 0);
        x.pack(0);
        Due.is("9: length", x.length(0), 12);
        Due.is("9: none such", x.length(1), PackPost.NUMBER);
        Due.is("9: below 0", x.length(-1), PackPost.NUMBER);
        Due.is("9: far", x.length(Integer.MAX_VALUE), PackPost.NUMBER);
        Due.is("10: first", x.octet(0, 0), 80);
        Due.is("10: name", x.octet(0, 2), 1);
        Due.is("10: last", x.octet(0, 11), Crafts.summed(80, 75, 1, 2, 0, 0, 0, 0)[11]);
        Due.is("10: behind", x.octet(0, 12), -1);
        Due.is("10: ahead", x.octet(0, -1), -1);
        Due.is("10: no pack", x.octet(1, 0), -1);
        Due.is("10: no pack -1", x.octet(-1, 0), -1);
    }

    private static void spoil() {
        PackPost x = new PackPost();
        x.draft(1, 2, 0);
        x.pack(0);
        Due.is("11: mask 255", x.spoil(0, 0, 255), 1);
        Due.is("11: xored", x.octet(0, 0), 80 ^ 255);
        Due.is("11: mask 1", x.spoil(0, 0, 1), 1);
        Due.is("11: xored again", x.octet(0, 0), 80 ^ 254);
        Due.is("11: last byte", x.spoil(0, 11, 128), 1);
        Due.is("11: mask 0", x.spoil(0, 0, 0), PackPost.NUMBER);
        Due.is("11: mask 256", x.spoil(0, 0, 256), PackPost.NUMBER);
        Due.is("11: mask -1", x.spoil(0, 0, -1), PackPost.NUMBER);
        Due.is("11: byte 12", x.spoil(0, 12, 1), PackPost.NUMBER);
        Due.is("11: byte -1", x.spoil(0, -1, 1), PackPost.NUMBER);
        Due.is("11: pack 1", x.spoil(1, 0, 1), PackPost.NUMBER);
        Due.is("11: pack -1", x.spoil(-1, 0, 1), PackPost.NUMBER);
        Due.is("11: unchanged by refusals", x.octet(0, 0), 80 ^ 254);
    }

    private static void trim() {
        PackPost x = new PackPost();
        x.draft(1, 2, 0);
        x.pack(0);
        Due.is("12: 0", x.trim(0, 0), PackPost.NUMBER);
        Due.is("12: -1", x.trim(0, -1), PackPost.NUMBER);
        Due.is("12: 13", x.trim(0, 13), PackPost.NUMBER);
        Due.is("12: pack 1", x.trim(1, 1), PackPost.NUMBER);
        Due.is("12: pack -1", x.trim(-1, 1), PackPost.NUMBER);
        Due.is("12: all", x.trim(0, 12), 1);
        Due.is("12: all stay", x.check(0), -1);
        Due.is("12: 11", x.trim(0, 11), 1);
        Due.is("12: length", x.length(0), 11);
        Due.is("12: byte 10 stays", x.octet(0, 10), Crafts.summed(80, 75, 1, 2, 0, 0, 0, 0)[10]);
        Due.is("12: byte 11 is gone", x.octet(0, 11), -1);
        Due.is("12: none comes again", x.trim(0, 12), PackPost.NUMBER);
        Due.is("12: 1", x.trim(0, 1), 1);
        Due.is("12: first byte", x.octet(0, 0), 80);
        Due.is("12: length 1", x.length(0), 1);
        Due.is("12: cut at", x.check(0), 1);
    }

    private static void wrongAt(String what, int place, int... bytes) {
        Due.is("13: " + what, Crafts.checkOf(bytes), place);
    }

    /** The bytes ahead of the SUM, with a right SUM behind them. */
    private static void summedAt(String what, int place, int... bytes) {
        wrongAt(what, place, Crafts.summed(bytes));
    }

    private static void checkHead() {
        PackPost x = new PackPost();
        Due.is("13: none such", x.check(0), -2);
        Due.is("13: below 0", x.check(-1), -2);
        summedAt("least pack", -1, 80, 75, 0, 0, 0, 0, 0, 0);
        summedAt("first letter", 0, 81, 75, 0, 0, 0, 0, 0, 0);
        summedAt("second letter", 1, 80, 74, 0, 0, 0, 0, 0, 0);
        summedAt("name 63", -1, 80, 75, 63, 0, 0, 0, 0, 0);
        summedAt("name 64", 2, 80, 75, 64, 0, 0, 0, 0, 0);
        summedAt("edition 99", -1, 80, 75, 0, 99, 0, 0, 0, 0);
        summedAt("edition 100", 3, 80, 75, 0, 100, 0, 0, 0, 0);
        summedAt("manner 1", -1, 80, 75, 0, 0, 1, 0, 0, 0);
        summedAt("manner 2 without the SIGN", 12, 80, 75, 0, 0, 2, 0, 0, 0);
        summedAt("manner 4", 4, 80, 75, 0, 0, 4, 0, 0, 0);
        summedAt("5 needs", 5, 80, 75, 0, 0, 0, 5, 0, 0);
        summedAt("4 needs", -1, 80, 75, 0, 0, 0, 4, 0, 0, 0, 63, 99, 1, 1, 0, 0, 2, 0, 0, 0, 0);
        summedAt("need's name", 6, 80, 75, 0, 0, 0, 1, 64, 0, 0, 0, 0);
        summedAt("need's edition", 7, 80, 75, 0, 0, 0, 1, 0, 100, 0, 0, 0);
        summedAt("need's exactness", 8, 80, 75, 0, 0, 0, 1, 0, 0, 2, 0, 0);
        summedAt("5 seals", 6, 80, 75, 0, 0, 0, 0, 5, 0);
        summedAt("4 seals", -1, 80, 75, 0, 0, 0, 0, 4, 15, 14, 0, 1, 0);
        summedAt("group 16", 8, 80, 75, 0, 0, 0, 0, 2, 3, 16, 0);
        summedAt("9 rows", 7, 80, 75, 0, 0, 0, 0, 0, 9);
        summedAt("key 255", -1, 80, 75, 0, 0, 0, 0, 0, 1, 255, 0, 0, 0, 0, 0);
        summedAt("packing 3", 9, 80, 75, 0, 0, 0, 0, 0, 1, 0, 3, 0, 0, 0, 0);
        summedAt("length's higher byte", 10, 80, 75, 0, 0, 0, 0, 0, 1, 0, 0, 1, 0, 0, 0);
        summedAt("length 121", 11, 80, 75, 0, 0, 0, 0, 0, 1, 0, 0, 0, 121, 0, 0);
        summedAt("size's higher byte", 12, 80, 75, 0, 0, 0, 0, 0, 1, 0, 0, 0, 0, 1, 0);
        summedAt("size 251", 13, 80, 75, 0, 0, 0, 0, 0, 1, 0, 2, 0, 0, 0, 251);
        summedAt("size 250 is no wrong byte", 14, 80, 75, 0, 0, 0, 0, 0, 1, 0, 0, 0, 0, 0, 250);
    }

    private static void checkTwice() {
        summedAt("a need's name twice", 12, 80, 75, 0, 0, 0, 3, 5, 0, 0, 6, 0, 0, 5, 1, 1, 0, 0);
        summedAt("twice is ahead of what stands behind", 9, 80, 75, 0, 0, 0, 2, 0, 0, 0, 0, 100, 0, 0, 0);
        summedAt("the pack's own name", -1, 80, 75, 5, 0, 0, 1, 5, 0, 0, 0, 0);
        summedAt("a group twice", 9, 80, 75, 0, 0, 0, 0, 3, 0, 1, 0, 0);
        summedAt("group 0 twice", 8, 80, 75, 0, 0, 0, 0, 2, 0, 0, 0);
        summedAt("a key twice", 20, 80, 75, 0, 0, 0, 0, 0, 3,
            9, 0, 0, 0, 0, 0, 8, 0, 0, 0, 0, 0, 9, 0, 0, 0, 0, 0);
        wrongAt("rows cut short within their heads", 15, 80, 75, 0, 0, 0, 0, 0, 2, 1, 0, 0, 0, 0, 0, 2);
        wrongAt("a key twice at the very end", 14, 80, 75, 0, 0, 0, 0, 0, 2, 1, 0, 0, 0, 0, 0, 1);
        summedAt("a key of another row's group", -1, 80, 75, 0, 0, 0, 0, 0, 2,
            1, 0, 0, 0, 0, 0, 2, 0, 0, 0, 0, 0);
    }

    /** Row 7 with these packed bytes, and a right SUM. */
    private static void rowAt(String what, int place, int packing, int length, int size, int... packed) {
        int[] head = {80, 75, 0, 0, 0, 0, 0, 1, 7, packing, 0, length, 0, size};
        summedAt(what, place, Crafts.join(head, packed));
    }

    private static void checkPlain() {
        rowAt("plain", -1, 0, 3, 3, 1, 2, 3);
        rowAt("plain: size above length", 14, 0, 2, 3, 1, 2, 3);
        rowAt("plain: size below length", 14, 0, 3, 2, 1, 2);
        rowAt("plain: size 0", 14, 0, 3, 0);
        rowAt("plain: length 0", 14, 0, 0, 1, 1);
        wrongAt("plain: no byte there", 14, 80, 75, 0, 0, 0, 0, 0, 1, 7, 0, 0, 3, 0, 2);
        wrongAt("plain: cut", 16, 80, 75, 0, 0, 0, 0, 0, 1, 7, 0, 0, 3, 0, 3, 1, 2);
        summedAt("plain: second row's bytes", 21, 80, 75, 0, 0, 0, 0, 0, 2,
            7, 0, 0, 1, 0, 1, 8, 0, 0, 1, 0, 2, 9, 9, 9);
    }

    private static void checkPairs() {
        rowAt("pairs", -1, 1, 3, 4, 2, 0, 1, 9);
        rowAt("pairs: two of like bytes", -1, 1, 3, 4, 2, 9, 1, 9);
        rowAt("pairs: empty", -1, 1, 0, 0);
        rowAt("pairs: often 0", 16, 1, 3, 4, 3, 9, 0, 9);
        rowAt("pairs: often 0 first", 14, 1, 3, 4, 0, 9, 3, 9);
        rowAt("pairs: above what is lacking", 16, 1, 3, 4, 2, 9, 2, 9);
        rowAt("pairs: above at once", 14, 1, 3, 2, 4, 9);
        rowAt("pairs: the last of size", 16, 1, 3, 3, 2, 9, 1);
        rowAt("pairs: the only one of size", 14, 1, 1, 1, 1);
        rowAt("pairs: full, and bytes are left", 16, 1, 3, 4, 3, 9, 1, 9);
        rowAt("pairs: length 0, size 2", 14, 1, 0, 2, 1, 9);
        rowAt("pairs: lacks some behind", 16, 1, 3, 2, 2, 9);
        rowAt("pairs: size 0", 14, 1, 1, 0);
        wrongAt("pairs: cut at often", 16, 80, 75, 0, 0, 0, 0, 0, 1, 7, 1, 0, 3, 0, 4, 2, 9);
        wrongAt("pairs: cut at the byte", 17, 80, 75, 0, 0, 0, 0, 0, 1, 7, 1, 0, 3, 0, 4, 2, 9, 1);
        rowAt("pairs: 120 at once", -1, 1, 120, 2, 120, 9);
        int[] ones = new int[240];
        for (int i = 0; i < 240; i += 2) {
            ones[i] = 1;
        }
        rowAt("pairs: size 240", -1, 1, 120, 240, ones);
    }

    private static void checkOps() {
        rowAt("ops: plain", -1, 2, 3, 4, 2, 1, 2, 3);
        rowAt("ops: plain after plain", -1, 2, 3, 5, 0, 1, 1, 2, 3);
        rowAt("ops: copy", -1, 2, 5, 5, 1, 1, 2, 128, 2);
        rowAt("ops: copy of one byte on", -1, 2, 5, 5, 1, 1, 2, 128, 1);
        rowAt("ops: copy 120", -1, 2, 120, 4, 0, 9, 244, 1);
        rowAt("ops: empty", -1, 2, 0, 0);
        rowAt("ops: plain stands for too many", 14, 2, 2, 4, 2, 1, 2, 3);
        rowAt("ops: plain behind size", 14, 2, 3, 3, 2, 1, 2, 3);
        rowAt("ops: plain is the last of size", 16, 2, 2, 3, 0, 1, 0);
        rowAt("ops: copy stands for too many", 16, 2, 3, 4, 0, 1, 128, 1);
        rowAt("ops: copy is the last of size", 16, 2, 4, 3, 0, 1, 128);
        rowAt("ops: d is 0", 17, 2, 4, 4, 0, 1, 128, 0);
        rowAt("ops: d above what there is", 17, 2, 4, 4, 0, 1, 128, 2);
        rowAt("ops: d with an empty page", 15, 2, 3, 2, 128, 1);
        rowAt("ops: full, and bytes are left", 16, 2, 1, 4, 0, 1, 0, 2);
        rowAt("ops: length 0, size 2", 14, 2, 0, 2, 0, 9);
        rowAt("ops: lacks some behind", 16, 2, 2, 2, 0, 1);
        rowAt("ops: size 0", 14, 2, 1, 0);
        rowAt("ops: 127 stands for 128", 16, 2, 3, 4, 0, 9, 127, 1);
        rowAt("ops: 255 stands for 130", 16, 2, 120, 4, 0, 9, 255, 1);
        wrongAt("ops: cut at n", 16, 80, 75, 0, 0, 0, 0, 0, 1, 7, 2, 0, 5, 0, 4, 0, 9);
        wrongAt("ops: cut at d", 17, 80, 75, 0, 0, 0, 0, 0, 1, 7, 2, 0, 5, 0, 4, 0, 9, 129);
        wrongAt("ops: cut among plain bytes", 16, 80, 75, 0, 0, 0, 0, 0, 1, 7, 2, 0, 3, 0, 4, 2, 1);
    }

    private static void checkEnd() {
        int[] good = Crafts.summed(80, 75, 1, 2, 0, 0, 0, 0);
        for (int i = 8; i < 12; i++) {
            int[] spoiled = good.clone();
            spoiled[i] ^= 1;
            wrongAt("sum byte " + i, i, spoiled);
            spoiled[11] ^= 2;
            wrongAt("sum byte " + i + " is the first", i, spoiled);
        }
        int[] named = good.clone();
        named[2] = 3;
        PackPost x = new PackPost();
        int place = x.check(Crafts.craft(x, named));
        Due.isTrue("13: another name is told by the sum", place >= 8 && place < 12);
        wrongAt("one byte more", 12, Crafts.join(good, 0));
        wrongAt("two bytes more", 12, Crafts.join(good, 7, 7));
        int[] signed = Crafts.signed(5, Crafts.summed(80, 75, 1, 2, 3, 0, 0, 0));
        wrongAt("signed", -1, signed);
        wrongAt("signed, one byte more", 16, Crafts.join(signed, 0));
        wrongAt("signed, cut", 15, Arrays.copyOf(signed, 15));
        signed[13] ^= 255;
        wrongAt("any sign will do", -1, signed);
    }

    private static void checkEveryCut() {
        PackPost x = new PackPost();
        x.draft(3, 1, 1);
        x.need(4, 5, true);
        x.seal(6);
        x.row(17, 1);
        x.add(5, 5, 5, 9, -1);
        x.row(18, 2);
        x.add(1, 2, 3, -1, 0);
        x.again(3, 7);
        x.row(19, 0);
        x.add(1, 2, 3, -1, 0);
        int p = x.pack(77);
        Due.is("13: whole", x.check(p), -1);
        for (int n = x.length(p) - 1; n >= 1; n--) {
            x.trim(p, n);
            Due.is("13: cut to " + n, x.check(p), n);
        }
    }

    private static void checkLimits() {
        PackPost x = new PackPost();
        x.draft(63, 99, 1);
        for (int i = 0; i < 4; i++) {
            x.need(60 + i, 99, i % 2 == 0);
            x.seal(12 + i);
        }
        for (int r = 0; r < 8; r++) {
            x.row(248 + r, r % 3);
            x.add(r, 255, 0, -1, -1);
            x.again(3, r == 0 ? 117 : 30);
        }
        int p = x.pack(Integer.MIN_VALUE);
        Due.is("13: a draft at its limits", x.check(p), -1);
        Due.is("13: it stays as it is", x.signer(p, Integer.MIN_VALUE), 1);
    }

    private static void signer() {
        PackPost x = new PackPost();
        Due.is("14: none such", x.signer(0, 1), PackPost.NUMBER);
        Due.is("14: below 0", x.signer(-1, 1), PackPost.NUMBER);
        x.draft(1, 2, 0);
        x.pack(9);
        Due.is("14: signed by 9", x.signer(0, 9), 1);
        Due.is("14: not by 8", x.signer(0, 8), 0);
        Due.is("14: not by 0", x.signer(0, 0), 0);
        x.spoil(0, 15, 1);
        Due.is("14: another sign", x.signer(0, 9), 0);
        Due.is("14: it is a pack all the same", x.check(0), -1);
        x.spoil(0, 15, 1);
        x.spoil(0, 12, 128);
        Due.is("14: another first byte", x.signer(0, 9), 0);
        x.spoil(0, 12, 128);
        x.spoil(0, 3, 1);
        Due.is("14: no pack", x.signer(0, 9), 0);
        x.draft(1, 2, 0);
        x.pack(0);
        Due.is("14: not signed", x.signer(1, 0), 0);
        Due.is("14: not signed by 1", x.signer(1, 1), 0);
        int p = Crafts.craft(x, Crafts.signed(0, Crafts.summed(80, 75, 1, 2, 2, 0, 0, 0)));
        Due.is("14: signed by 0", x.signer(p, 0), 1);
        Due.is("14: not by 1 then", x.signer(p, 1), 0);
        int[] spoiledSum = Crafts.summed(80, 75, 1, 2, 2, 0, 0, 0);
        spoiledSum[9] ^= 1;
        int q = Crafts.craft(x, Crafts.signed(5, spoiledSum));
        Due.is("14: a right sign on what is no pack", x.signer(q, 5), 0);
        int letter = Crafts.craft(x, Crafts.signed(5, Crafts.summed(81, 75, 1, 2, 2, 0, 0, 0)));
        Due.is("14: wrong at its first byte", x.signer(letter, 5), 0);
        int last = Crafts.craft(x, Crafts.signed(5, Crafts.summed(80, 75, 1, 2, 0, 0, 0, 0)));
        Due.is("14: a sign where none is due", x.signer(last, 5), 0);
    }
}
