/** Promises 9 to 14 at their edges: a method for each sentence that names one. */
public final class PackEdgesTest {
    public static void main(String[] args) {
        packsAreNumbered();
        lengthNumbers();
        lengthOfLeastAndMost();
        octetNoneSuch();
        spoilXors();
        spoilNoneSuch();
        spoilMasks();
        trimKeepsTheFirst();
        trimNoneSuch();
        trimNumbers();
        checkPlaces();
        checkNoneSuch();
        checkChangesNothing();
        signerOfAPack();
        signerIsSigned();
        signerBySecret();
        signerNoneSuch();
        Due.end("PackEdgesTest");
    }

    /** A new object with so many packs of 12 bytes. */
    private static PackPost withPacks(int n) {
        PackPost x = new PackPost();
        Crafts.smallPacks(x, n);
        return x;
    }

    private static void packsAreNumbered() {
        Due.sentence("Term 1: PACKS are numbered 0 .. 15, as they come");
        for (int n : new int[] {0, 1, 2, 15, 16}) {
            PackPost x = withPacks(n);
            for (int p = -1; p <= 17; p++) {
                boolean there = p >= 0 && p < n;
                Due.is(n + " packs: length " + p, x.length(p), there ? 12 : PackPost.NUMBER);
                Due.is(n + " packs: octet " + p, x.octet(p, 0), there ? 80 : -1);
                Due.is(n + " packs: spoil " + p, x.spoil(p, 2, 1), there ? 1 : PackPost.NUMBER);
                Due.is(n + " packs: check " + p, x.check(p), there ? 8 : -2);
                Due.is(n + " packs: signer " + p, x.signer(p, 1), there ? 0 : PackPost.NUMBER);
                Due.is(n + " packs: parts " + p, x.parts(p, 8), there ? 2 : PackPost.NUMBER);
                Due.is(n + " packs: load " + p, x.load(p, 8, 1), there ? 12 : PackPost.NUMBER);
                Due.is(n + " packs: open " + p, x.open(p, 0), there ? PackPost.BROKEN : PackPost.NUMBER);
                Due.is(n + " packs: trim " + p, x.trim(p, 12), there ? 1 : PackPost.NUMBER);
            }
        }
    }

    private static void lengthNumbers() {
        Due.sentence("9: NUMBER: there is none such.");
        PackPost x = withPacks(3);
        for (int p : Crafts.beyond(0, 2)) {
            Due.is("pack " + p, x.length(p), PackPost.NUMBER);
        }
        Due.is("the first", x.length(0), 12);
        Due.is("the last", x.length(2), 12);
    }

    private static void lengthOfLeastAndMost() {
        Due.sentence("9: How many bytes a pack has.");
        PackPost x = new PackPost();
        Crafts.packOf(x, 1);
        Crafts.packOf(x, 700);
        Due.is("the least", x.length(0), 1);
        Due.is("the most", x.length(1), 700);
        int[] bytes = Crafts.bytesOfPack();
        for (int i = 0; i < 700; i += 2) {
            Due.is("byte " + i, x.octet(1, i), bytes[i]);
        }
        x.trim(1, 699);
        Due.is("trimmed", x.length(1), 699);
        x.spoil(1, 0, 255);
        Due.is("spoiled", x.length(1), 699);
    }

    private static void octetNoneSuch() {
        Due.sentence("10: Byte i of a pack; -1 if there is none such.");
        PackPost x = new PackPost();
        Crafts.packOf(x, 1);
        Crafts.packOf(x, 700);
        for (int i : Crafts.beyond(0, 0)) {
            Due.is("byte " + i + " of 1", x.octet(0, i), -1);
        }
        for (int i : Crafts.beyond(0, 699)) {
            Due.is("byte " + i + " of 700", x.octet(1, i), -1);
        }
        Due.is("the only byte", x.octet(0, 0), 80);
        Due.is("the first of 700", x.octet(1, 0), 80);
        Due.isTrue("the last of 700", x.octet(1, 699) >= 0);
        for (int p : Crafts.beyond(0, 1)) {
            Due.is("of pack " + p, x.octet(p, 0), -1);
        }
        x.trim(1, 100);
        Due.is("the last that is kept", x.octet(1, 99), 1);
        Due.is("the first that isn't", x.octet(1, 100), -1);
    }

    private static void spoilXors() {
        Due.sentence("11: Byte i of a pack is xored with mask: 1.");
        PackPost x = withPacks(2);
        int[] due = Crafts.summed(80, 75, 0, 0, 0, 0, 0, 0);
        for (int i = 0; i < 12; i++) {
            int mask = i == 0 ? 255 : 1 << i % 8;
            Due.is("spoil " + i, x.spoil(0, i, mask), 1);
            due[i] ^= mask;
        }
        Crafts.sameBytes("each byte", x, 0, due);
        Due.is("twice", x.spoil(0, 0, 255), 1);
        Due.is("is as it was", x.octet(0, 0), 80);
        Due.is("the other pack stays", x.check(1), -1);
    }

    private static void spoilNoneSuch() {
        Due.sentence("11: NUMBER: there is none such");
        PackPost x = withPacks(2);
        for (int p : Crafts.beyond(0, 1)) {
            Due.is("pack " + p, x.spoil(p, 0, 1), PackPost.NUMBER);
        }
        for (int i : Crafts.beyond(0, 11)) {
            Due.is("byte " + i, x.spoil(0, i, 1), PackPost.NUMBER);
        }
        Due.is("the last byte of the last", x.spoil(1, 11, 1), 1);
        x.trim(1, 11);
        Due.is("which is cut off", x.spoil(1, 11, 1), PackPost.NUMBER);
    }

    private static void spoilMasks() {
        Due.sentence("11: NUMBER: mask isn't 1 .. 255.");
        PackPost x = withPacks(1);
        for (int mask : Crafts.beyond(1, 255)) {
            Due.is("mask " + mask, x.spoil(0, 5, mask), PackPost.NUMBER);
        }
        Due.is("mask -1", x.spoil(0, 5, -1), PackPost.NUMBER);
        Due.is("it stays", x.octet(0, 5), 0);
        for (int mask = 1; mask <= 255; mask++) {
            Due.is("mask " + mask, x.spoil(0, 5, mask), 1);
        }
        // The xor of 1 up to 255 is 0.
        Due.is("all of them", x.octet(0, 5), 0);
    }

    private static void trimKeepsTheFirst() {
        Due.sentence("12: A pack keeps its first n bytes: 1.");
        PackPost x = withPacks(2);
        int[] bytes = Crafts.summed(80, 75, 0, 0, 0, 0, 0, 0);
        for (int n = 12; n >= 1; n--) {
            Due.is("to " + n, x.trim(0, n), 1);
            Crafts.sameBytes("cut to " + n, x, 0, java.util.Arrays.copyOf(bytes, n));
        }
        Due.is("the other pack stays", x.length(1), 12);
    }

    private static void trimNoneSuch() {
        Due.sentence("12: NUMBER: there is none such");
        PackPost x = withPacks(2);
        for (int p : Crafts.beyond(0, 1)) {
            Due.is("pack " + p, x.trim(p, 1), PackPost.NUMBER);
        }
    }

    private static void trimNumbers() {
        Due.sentence("12: NUMBER: or n isn't 1 .. its length.");
        PackPost x = withPacks(1);
        for (int n : Crafts.beyond(1, 12)) {
            Due.is("to " + n, x.trim(0, n), PackPost.NUMBER);
        }
        Due.is("it stays", x.check(0), -1);
        Due.is("its length", x.trim(0, 12), 1);
        Due.is("it stays whole", x.check(0), -1);
        x.trim(0, 5);
        Due.is("its length that was", x.trim(0, 12), PackPost.NUMBER);
        Due.is("one above its length", x.trim(0, 6), PackPost.NUMBER);
        Due.is("just its length", x.trim(0, 5), 1);
        Due.is("1", x.trim(0, 1), 1);
        Due.is("1 again", x.trim(0, 1), 1);
        Due.is("2 of 1", x.trim(0, 2), PackPost.NUMBER);
        Due.is("0 of 1", x.trim(0, 0), PackPost.NUMBER);
        PackPost y = new PackPost();
        Crafts.packOf(y, 700);
        Due.is("701 of 700", y.trim(0, 701), PackPost.NUMBER);
        Due.is("700 of 700", y.trim(0, 700), 1);
    }

    private static void checkPlaces() {
        Due.sentence("13: -1 if the bytes are a pack, else the place at which they are WRONG.");
        PackPost x = new PackPost();
        Crafts.packOf(x, 700);
        Due.is("700 bytes", x.check(0), -1);
        x.spoil(0, 699, 1);
        Due.is("the last one", x.check(0), 699);
        x.trim(0, 699);
        Due.is("is not there", x.check(0), 699);
        x.spoil(0, 0, 1);
        Due.is("the first one", x.check(0), 0);
        x.trim(0, 1);
        Due.is("the only one", x.check(0), 0);
        x.spoil(0, 0, 1);
        Due.is("the second is not there", x.check(0), 1);
    }

    private static void checkNoneSuch() {
        Due.sentence("13: NUMBER is answered as -2 here: there is none such.");
        PackPost x = withPacks(2);
        for (int p : Crafts.beyond(0, 1)) {
            Due.is("pack " + p, x.check(p), -2);
        }
        Due.is("the last", x.check(1), -1);
    }

    private static void checkChangesNothing() {
        Due.sentence("23: Of the latest open(): check() and signer() tell why() nothing");
        PackPost x = withPacks(1);
        x.trim(0, 5);
        Due.is("check", x.check(0), 5);
        Due.is("signer", x.signer(0, 1), 0);
        Due.is("why", x.why(), 0);
    }

    private static void signerOfAPack() {
        Due.sentence("14: 1 if its bytes are a pack");
        int[] good = Crafts.summed(80, 75, 1, 2, 2, 0, 0, 0);
        PackPost x = new PackPost();
        Due.is("a pack", x.signer(Crafts.craft(x, Crafts.signed(5, good)), 5), 1);
        int[] badSum = good.clone();
        badSum[11] ^= 1;
        Due.is("another SUM, signed", x.signer(Crafts.craft(x, Crafts.signed(5, badSum)), 5), 0);
        int[] badName = Crafts.summed(80, 75, 64, 2, 2, 0, 0, 0);
        Due.is("another name, signed", x.signer(Crafts.craft(x, Crafts.signed(5, badName)), 5), 0);
        int[] badStart = Crafts.summed(0, 75, 1, 2, 2, 0, 0, 0);
        Due.is("wrong at place 0, signed", x.signer(Crafts.craft(x, Crafts.signed(5, badStart)), 5), 0);
        int[] more = Crafts.join(good, 0);
        Due.is("a byte more, signed", x.signer(Crafts.craft(x, Crafts.signed(5, more)), 5), 0);
        int cut = Crafts.craft(x, Crafts.signed(5, good));
        x.trim(cut, 15);
        Due.is("a byte less", x.signer(cut, 5), 0);
        x.trim(cut, 1);
        Due.is("one byte", x.signer(cut, 5), 0);
    }

    private static void signerIsSigned() {
        Due.sentence("14: it is signed");
        for (int manner = 0; manner < 2; manner++) {
            int[] plain = Crafts.summed(80, 75, 1, 2, manner, 0, 0, 0);
            PackPost x = new PackPost();
            int p = Crafts.craft(x, plain);
            for (int secret : new int[] {0, 1, 5, -1}) {
                Due.is("it isn't, by " + secret, x.signer(p, secret), 0);
            }
            // Its SUM stands where a SIGN would: from 1, of all ahead of it.
            Due.is("its SUM is no SIGN", x.signer(p, 1), 0);
            int[] signed = Crafts.signed(5, Crafts.summed(80, 75, 1, 2, manner + 2, 0, 0, 0));
            Due.is("it is", x.signer(Crafts.craft(x, signed), 5), 1);
        }
    }

    private static void signerBySecret() {
        Due.sentence("14: and the SIGN is the SUM of all ahead of it from secret; else 0");
        for (int secret : new int[] {1, -1, Integer.MIN_VALUE, Integer.MAX_VALUE}) {
            PackPost x = new PackPost();
            x.draft(1, 2, 0);
            x.pack(secret);
            Due.is("by " + secret, x.signer(0, secret), 1);
            Due.is("by one more than " + secret, x.signer(0, secret + 1), 0);
            Due.is("by one less than " + secret, x.signer(0, secret - 1), 0);
            for (int i = 12; i < 16; i++) {
                x.spoil(0, i, 128);
                Due.is("byte " + i + " of the SIGN", x.signer(0, secret), 0);
                x.spoil(0, i, 129);
                Due.is("byte " + i + " of the SIGN, lowest bit", x.signer(0, secret), 0);
                x.spoil(0, i, 1);
            }
            Due.is("as it was", x.signer(0, secret), 1);
        }
        PackPost x = new PackPost();
        int p = Crafts.craft(x, Crafts.signed(0, Crafts.summed(80, 75, 1, 2, 2, 0, 0, 0)));
        Due.is("by 0", x.signer(p, 0), 1);
        Due.is("not by 1", x.signer(p, 1), 0);
    }

    private static void signerNoneSuch() {
        Due.sentence("14: NUMBER: there is none such.");
        PackPost x = withPacks(2);
        for (int p : Crafts.beyond(0, 1)) {
            Due.is("pack " + p, x.signer(p, 0), PackPost.NUMBER);
        }
        Due.is("the last", x.signer(1, 0), 0);
    }
}
