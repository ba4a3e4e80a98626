/** Promises 15 to 21: parts, the tape and the books. */
public final class PartsTest {
    public static void main(String[] args) {
        parts();
        load();
        tapeAndBend();
        takeInAnyOrder();
        takeRefusals();
        takeMixedAndTwice();
        takeFullPacks();
        takeFullBytes();
        takeManyParts();
        book();
        drop();
        Due.end("PartsTest");
    }

    private static PackPost withPackOf12() {
        PackPost x = new PackPost();
        x.draft(0, 0, 0);
        x.pack(0);
        return x;
    }

    /** A new object whose pack 0 has this many bytes (1 .. 642). */
    private static PackPost withBytes(int bytes) {
        PackPost x = new PackPost();
        x.draft(0, 0, 0);
        for (int r = 0; r < 5; r++) {
            x.row(r, 0);
            x.add(r + 1, 7 * r, 90 + r, -1, -1);
            x.again(3, 117);
        }
        x.pack(0);
        x.trim(0, bytes);
        return x;
    }

    private static void parts() {
        PackPost x = withPackOf12();
        Due.is("15: 12 by 8", x.parts(0, 8), 2);
        Due.is("15: 12 by 11", x.parts(0, 11), 2);
        Due.is("15: 12 by 12", x.parts(0, 12), 1);
        Due.is("15: 12 by 100", x.parts(0, 100), 1);
        Due.is("15: size 7", x.parts(0, 7), PackPost.NUMBER);
        Due.is("15: size 101", x.parts(0, 101), PackPost.NUMBER);
        Due.is("15: size 0", x.parts(0, 0), PackPost.NUMBER);
        Due.is("15: size below 0", x.parts(0, -8), PackPost.NUMBER);
        Due.is("15: no pack", x.parts(1, 8), PackPost.NUMBER);
        Due.is("15: no pack -1", x.parts(-1, 8), PackPost.NUMBER);
        x.trim(0, 8);
        Due.is("15: 8 by 8", x.parts(0, 8), 1);
        x.trim(0, 1);
        Due.is("15: 1 by 8", x.parts(0, 8), 1);
        Due.is("15: 600 by 8", withBytes(600).parts(0, 8), 75);
        Due.is("15: 601 by 8", withBytes(601).parts(0, 8), 76);
    }

    private static void tapeIs(String what, PackPost x, int... due) {
        for (int k = 0; k < due.length; k++) {
            Due.is(what + " tape " + k, x.tape(k), due[k]);
        }
        Due.is(what + " tape behind", x.tape(due.length), -1);
    }

    private static void load() {
        PackPost x = withPackOf12();
        Due.is("16: first part", x.load(0, 8, 0), 16);
        tapeIs("16: first", x, 112, 0, 0, 2, 80, 75, 0, 0, 0, 0, 0, 0, 175, 194, 230, 8);
        Due.is("16: last part", x.load(0, 8, 1), 12);
        int[] last = {112, 0, 1, 2, 149, 237, 238, 255, 202, 130, 21, 72};
        tapeIs("16: last", x, last);
        Due.is("16: no part 2", x.load(0, 8, 2), PackPost.NUMBER);
        Due.is("16: no part -1", x.load(0, 8, -1), PackPost.NUMBER);
        Due.is("16: size 7", x.load(0, 7, 0), PackPost.NUMBER);
        Due.is("16: size 101", x.load(0, 101, 0), PackPost.NUMBER);
        Due.is("16: no pack", x.load(1, 8, 0), PackPost.NUMBER);
        Due.is("16: no pack -1", x.load(-1, 8, 0), PackPost.NUMBER);
        tapeIs("16: unchanged by refusals", x, last);
        x.draft(0, 0, 0);
        x.pack(0);
        Due.is("16: pack 1", x.load(1, 100, 0), 20);
        Due.is("16: its number", x.tape(1), 1);
        Due.is("16: how many", x.tape(3), 1);
        Due.is("16: the longest", withBytes(600).load(0, 100, 5), 108);
    }

    private static void tapeAndBend() {
        PackPost x = withPackOf12();
        Due.is("17: empty", x.tape(0), -1);
        Due.is("18: empty", x.bend(0, 1), PackPost.NUMBER);
        x.load(0, 8, 0);
        Due.is("17: first", x.tape(0), 112);
        Due.is("17: last", x.tape(15), 8);
        Due.is("17: behind", x.tape(16), -1);
        Due.is("17: ahead", x.tape(-1), -1);
        Due.is("18: mask 1", x.bend(0, 1), 1);
        Due.is("18: bent", x.tape(0), 113);
        Due.is("18: mask 255", x.bend(15, 255), 1);
        Due.is("18: bent last", x.tape(15), 247);
        Due.is("18: mask 0", x.bend(0, 0), PackPost.NUMBER);
        Due.is("18: mask 256", x.bend(0, 256), PackPost.NUMBER);
        Due.is("18: mask -1", x.bend(0, -1), PackPost.NUMBER);
        Due.is("18: byte 16", x.bend(16, 1), PackPost.NUMBER);
        Due.is("18: byte -1", x.bend(-1, 1), PackPost.NUMBER);
        Due.is("18: the pack isn't bent", x.check(0), -1);
    }

    private static void takeInAnyOrder() {
        PackPost x = withBytes(638);
        int many = x.parts(0, 64);
        Due.is("19: how many", many, 10);
        for (int k = 0; k < many; k++) {
            int i = (k * 7 + 3) % many;
            x.load(0, 64, i);
            Due.is("19: part " + i, x.take(), k < many - 1 ? 0 : 101);
            Due.is("19: the tape stays", x.tape(2), i);
            Due.is("19: came", x.book(0, 1), k < many - 1 ? k + 1 : 0);
        }
        Due.is("19: the book is empty", x.book(0, 0), 0);
        Due.is("19: as long", x.length(1), 638);
        for (int i = 0; i < 638; i += 11) {
            Due.is("19: byte " + i, x.octet(1, i), x.octet(0, i));
        }
        Due.is("19: none behind", x.octet(1, 638), -1);
        PackPost y = withPackOf12();
        y.trim(0, 1);
        y.load(0, 100, 0);
        Due.is("19: one part alone", y.take(), 101);
        Due.is("19: whatever they are", y.check(1), 1);
        Due.is("19: once more", y.take(), 102);
        y.load(2, 100, 0);
        Due.is("19: of pack 2", y.take(), 103);
    }

    private static void takeRefusals() {
        PackPost x = withPackOf12();
        Due.is("19: empty tape", x.take(), PackPost.STATE);
        x.load(0, 8, 0);
        for (int k = 0; k < 16; k++) {
            x.bend(k, 1);
            Due.is("19: bent " + k, x.take(), PackPost.SPOILED);
            x.bend(k, 1);
        }
        spoiledWith("another mark", 0, 112 ^ 113);
        spoiledWith("pack 16", 1, 16);
        spoiledWith("pack 255", 1, 255);
        spoiledWith("part 2 of 2", 2, 2);
        spoiledWith("part 255 of 2", 2, 255);
        spoiledWith("of 0", 3, 2);
        spoiledWith("of 89", 3, 2 ^ 89);
        spoiledWith("of 255", 3, 2 ^ 255);
        Due.is("19: nothing was taken", x.book(0, 0), 0);
        // Numbers that are in bounds are taken, whatever pack they came from.
        x.bend(1, 15);
        x.bend(2, 87);
        x.bend(3, 2 ^ 88);
        Crafts.resumTape(x);
        Due.is("19: part 87 of 88 of pack 15", x.take(), 0);
        Due.is("19: it is in that book", x.book(15, 2 + 87), 1);
        Due.is("19: which wants 88", x.book(15, 0), 88);
        x.draft(0, 0, 0);
        x.pack(0);
        x.trim(1, 1);
        Due.is("19: least part", x.load(1, 8, 0), 9);
        Due.is("19: is none too short", x.take(), 102);
    }

    private static void spoiledWith(String what, int k, int mask) {
        PackPost x = withPackOf12();
        x.load(0, 8, 0);
        x.bend(k, mask);
        Crafts.resumTape(x);
        Due.is("19: " + what, x.take(), PackPost.SPOILED);
    }

    private static void takeMixedAndTwice() {
        PackPost x = withBytes(100);
        x.load(0, 50, 1);
        Due.is("19: part 1 of 2", x.take(), 0);
        Due.is("19: twice", x.take(), PackPost.TWICE);
        x.spoil(0, 99, 1);
        x.load(0, 50, 1);
        Due.is("19: twice, whatever its bytes are", x.take(), PackPost.TWICE);
        x.load(0, 40, 0);
        Due.is("19: of 3", x.take(), PackPost.MIXED);
        x.load(0, 40, 1);
        Due.is("19: MIXED ahead of TWICE", x.take(), PackPost.MIXED);
        x.bend(4, 1);
        Due.is("19: SPOILED ahead of MIXED", x.take(), PackPost.SPOILED);
        Due.is("19: came", x.book(0, 1), 1);
        x.load(0, 50, 0);
        x.bend(1, 3);
        Crafts.resumTape(x);
        Due.is("19: another book", x.take(), 0);
        Due.is("19: book 3", x.book(3, 1), 1);
        x.load(0, 60, 0);
        Due.is("19: another size, as many", x.take(), 101);
        Due.is("19: 60 and 50 bytes", x.length(1), 110);
        Due.is("19: the first that came counts", x.octet(1, 109), x.octet(0, 99) ^ 1);
        x.load(0, 40, 0);
        Due.is("19: the empty book takes any", x.take(), 0);
        Due.is("19: wants 3", x.book(0, 0), 3);
    }

    private static void takeFullPacks() {
        PackPost x = withPackOf12();
        for (int p = 1; p < 16; p++) {
            x.draft(0, 0, 0);
            x.pack(0);
        }
        x.load(3, 8, 0);
        Due.is("19: others are missing", x.take(), 0);
        x.load(3, 8, 1);
        Due.is("19: there are 16", x.take(), PackPost.FULL);
        Due.is("19: it isn't taken", x.book(3, 3), 0);
        Due.is("19: the book stays", x.book(3, 1), 1);
        x.load(3, 8, 0);
        Due.is("19: TWICE ahead of FULL", x.take(), PackPost.TWICE);
        x.load(4, 100, 0);
        Due.is("19: the only one", x.take(), PackPost.FULL);
        Due.is("19: book 4 stays empty", x.book(4, 0), 0);
    }

    private static void takeFullBytes() {
        PackPost x = withBytes(638);
        // In 8 parts by 90 and by 80: seven of 90 and the last of 638 - 560.
        Due.is("19: by 90", x.parts(0, 90), 8);
        Due.is("19: by 80", x.parts(0, 80), 8);
        for (int i = 0; i < 7; i++) {
            x.load(0, 90, i);
            Due.is("19: 90 bytes", x.take(), 0);
        }
        x.load(0, 80, 7);
        Due.is("19: 708 bytes", x.take(), PackPost.FULL);
        Due.is("19: not taken", x.book(0, 1), 7);
        x.load(0, 90, 7);
        Due.is("19: 638 bytes", x.take(), 101);
        for (int i = 0; i < 6; i++) {
            x.load(0, 90, i);
            x.take();
        }
        x.load(0, 82, 6);
        x.take();
        x.load(0, 80, 7);
        Due.is("19: just 700 bytes", x.take(), 102);
        Due.is("19: length", x.length(2), 700);
        for (int i = 0; i < 6; i++) {
            x.load(0, 90, i);
            x.take();
        }
        x.load(0, 83, 6);
        x.take();
        x.load(0, 80, 7);
        Due.is("19: 701 bytes", x.take(), PackPost.FULL);
    }

    private static void takeManyParts() {
        PackPost x = new PackPost();
        Crafts.longDraft(x, 5, 52);
        x.pack(0);
        Due.is("15: 700 by 8", x.parts(0, 8), 88);
        for (int i = 87; i >= 0; i--) {
            Due.is("16: length", x.load(0, 8, i), i == 87 ? 12 : 16);
            Due.is("19: of 88", x.take(), i == 0 ? 101 : 0);
        }
        Due.is("19: it is a pack", x.check(1), -1);
        Due.is("19: of 700 bytes", x.length(1), 700);
    }

    private static void book() {
        PackPost x = withBytes(100);
        x.load(0, 30, 2);
        x.take();
        x.load(0, 30, 0);
        x.take();
        Due.is("20: wants", x.book(0, 0), 4);
        Due.is("20: came", x.book(0, 1), 2);
        Due.is("20: part 0", x.book(0, 2), 1);
        Due.is("20: part 1", x.book(0, 3), 0);
        Due.is("20: part 2", x.book(0, 4), 1);
        Due.is("20: part 3", x.book(0, 5), 0);
        Due.is("20: part 4", x.book(0, 6), 0);
        Due.is("20: part 88", x.book(0, 90), 0);
        Due.is("20: part far", x.book(0, Integer.MAX_VALUE), 0);
        Due.is("20: another book", x.book(15, 0), 0);
        Due.is("20: another book's part", x.book(15, 2), 0);
        Due.is("20: what below 0", x.book(0, -1), PackPost.NUMBER);
        Due.is("20: p 16", x.book(16, 0), PackPost.NUMBER);
        Due.is("20: p -1", x.book(-1, 0), PackPost.NUMBER);
    }

    private static void drop() {
        PackPost x = withBytes(100);
        x.load(0, 30, 2);
        x.take();
        x.load(0, 30, 0);
        x.take();
        Due.is("21: p 16", x.drop(16), PackPost.NUMBER);
        Due.is("21: p -1", x.drop(-1), PackPost.NUMBER);
        Due.is("21: another", x.drop(1), 0);
        Due.is("21: had", x.drop(0), 2);
        Due.is("21: wants none", x.book(0, 0), 0);
        Due.is("21: none came", x.book(0, 1), 0);
        Due.is("21: part 2 is gone", x.book(0, 4), 0);
        Due.is("21: empty", x.drop(0), 0);
        Due.is("21: may come again", x.take(), 0);
        x.drop(0);
        for (int i = 3; i >= 0; i--) {
            x.load(0, 30, i);
            Due.is("21: all anew", x.take(), i == 0 ? 101 : 0);
        }
        Due.is("21: as long", x.length(1), 100);
    }
}
