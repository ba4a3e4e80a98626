/** Promises 1 to 8: a new object, and drafts up to their writing. */
public final class DraftsTest {
    public static void main(String[] args) {
        newObject();
        draft();
        need();
        seal();
        row();
        add();
        again();
        packForm();
        packRefusals();
        writesPairs();
        writesOps();
        Due.end("DraftsTest");
    }

    private static void newObject() {
        PackPost x = new PackPost();
        Due.is("1: why", x.why(), 0);
        Due.is("1: need", x.need(0, 0, false), PackPost.STATE);
        Due.is("1: seal", x.seal(0), PackPost.STATE);
        Due.is("1: row", x.row(0, 0), PackPost.STATE);
        Due.is("1: add", x.add(1, 2, 3, 4, 5), PackPost.STATE);
        Due.is("1: again", x.again(1, 0), PackPost.STATE);
        Due.is("1: pack", x.pack(0), PackPost.STATE);
        Due.is("1: length", x.length(0), PackPost.NUMBER);
        Due.is("1: octet", x.octet(0, 0), -1);
        Due.is("1: check", x.check(0), -2);
        Due.is("1: open", x.open(0, 0), PackPost.NUMBER);
        Due.is("1: tape", x.tape(0), -1);
        Due.is("1: bend", x.bend(0, 1), PackPost.NUMBER);
        Due.is("1: take", x.take(), PackPost.STATE);
        for (int p = 0; p < 16; p++) {
            Due.is("1: book wants", x.book(p, 0), 0);
            Due.is("1: book came", x.book(p, 1), 0);
            Due.is("1: book part", x.book(p, 2), 0);
            Due.is("1: drop", x.drop(p), 0);
        }
        Due.is("1: entry", x.entry(0, 0), -2);
        Due.is("1: close", x.close(0), PackPost.NUMBER);
        Due.is("1: find", x.find(0, 0), -2);
        Due.is("1: edition", x.edition(0, 0), -1);
        Due.is("1: needed", x.needed(0, 0), -1);
    }

    private static void draft() {
        PackPost x = new PackPost();
        int[][] wrong = {{-1, 0, 0}, {64, 0, 0}, {0, -1, 0}, {0, 100, 0}, {0, 0, -1}, {0, 0, 2},
            {Integer.MIN_VALUE, 0, 0}, {0, Integer.MAX_VALUE, 0}};
        for (int[] w : wrong) {
            Due.is("2: wrong number", x.draft(w[0], w[1], w[2]), PackPost.NUMBER);
        }
        Due.is("2: no draft by a refusal", x.seal(0), PackPost.STATE);
        Due.is("2: highest", x.draft(63, 99, 1), 1);
        x.need(1, 1, false);
        x.seal(1);
        x.row(1, 0);
        Due.is("2: refused", x.draft(64, 0, 0), PackPost.NUMBER);
        Due.is("2: refused, the old one stays", x.need(1, 1, false), PackPost.TWICE);
        Due.is("2: in place of what was", x.draft(5, 6, 0), 1);
        Due.is("2: no row any more", x.add(1, -1, -1, -1, -1), PackPost.STATE);
        Due.is("2: pack", x.pack(0), 0);
        Crafts.sameBytes("2: empty draft", x, 0, Crafts.summed(80, 75, 5, 6, 0, 0, 0, 0));
    }

    private static void need() {
        PackPost x = new PackPost();
        Due.is("3: NUMBER ahead of STATE", x.need(64, 0, true), PackPost.NUMBER);
        Due.is("3: no draft", x.need(63, 99, true), PackPost.STATE);
        x.draft(0, 0, 0);
        Due.is("3: name -1", x.need(-1, 0, true), PackPost.NUMBER);
        Due.is("3: name 64", x.need(64, 0, true), PackPost.NUMBER);
        Due.is("3: edition -1", x.need(0, -1, true), PackPost.NUMBER);
        Due.is("3: edition 100", x.need(0, 100, true), PackPost.NUMBER);
        Due.is("3: first", x.need(63, 99, true), 1);
        Due.is("3: twice", x.need(63, 0, false), PackPost.TWICE);
        Due.is("3: second", x.need(0, 0, false), 2);
        Due.is("3: third", x.need(1, 50, false), 3);
        Due.is("3: fourth", x.need(2, 1, true), 4);
        Due.is("3: TWICE ahead of FULL", x.need(2, 1, true), PackPost.TWICE);
        Due.is("3: full", x.need(3, 1, true), PackPost.FULL);
        x.pack(0);
        Crafts.sameBytes("3: written", x, 0, Crafts.summed(
            80, 75, 0, 0, 0, 4, 63, 99, 1, 0, 0, 0, 1, 50, 0, 2, 1, 1, 0, 0));
        Due.is("3: no draft behind pack", x.need(5, 0, true), PackPost.STATE);
    }

    private static void seal() {
        PackPost x = new PackPost();
        Due.is("4: NUMBER ahead of STATE", x.seal(16), PackPost.NUMBER);
        Due.is("4: no draft", x.seal(15), PackPost.STATE);
        x.draft(0, 0, 0);
        Due.is("4: group -1", x.seal(-1), PackPost.NUMBER);
        Due.is("4: group 16", x.seal(16), PackPost.NUMBER);
        Due.is("4: first", x.seal(15), 1);
        Due.is("4: twice", x.seal(15), PackPost.TWICE);
        Due.is("4: second", x.seal(0), 2);
        Due.is("4: third", x.seal(3), 3);
        Due.is("4: fourth", x.seal(2), 4);
        Due.is("4: TWICE ahead of FULL", x.seal(0), PackPost.TWICE);
        Due.is("4: full", x.seal(1), PackPost.FULL);
        x.pack(0);
        Crafts.sameBytes("4: written", x, 0, Crafts.summed(80, 75, 0, 0, 0, 0, 4, 15, 0, 3, 2, 0));
        Due.is("4: no draft behind pack", x.seal(5), PackPost.STATE);
    }

    private static void row() {
        PackPost x = new PackPost();
        Due.is("5: NUMBER ahead of STATE", x.row(256, 0), PackPost.NUMBER);
        Due.is("5: no draft", x.row(255, 2), PackPost.STATE);
        x.draft(0, 0, 0);
        Due.is("5: key -1", x.row(-1, 0), PackPost.NUMBER);
        Due.is("5: key 256", x.row(256, 0), PackPost.NUMBER);
        Due.is("5: packing -1", x.row(0, -1), PackPost.NUMBER);
        Due.is("5: packing 3", x.row(0, 3), PackPost.NUMBER);
        for (int r = 0; r < 8; r++) {
            Due.is("5: row", x.row(255 - r, r % 3), r + 1);
            Due.is("5: its page is empty", x.add(-1, 0, 0, 0, 0), 0);
            Due.is("5: twice", x.row(255, 0), PackPost.TWICE);
        }
        Due.is("5: TWICE ahead of FULL", x.row(248, 0), PackPost.TWICE);
        Due.is("5: full", x.row(247, 0), PackPost.FULL);
        x.pack(0);
        int[] due = {80, 75, 0, 0, 0, 0, 0, 8};
        for (int r = 0; r < 8; r++) {
            due = Crafts.join(due, 255 - r, r % 3, 0, 0, 0, 0);
        }
        Crafts.sameBytes("5: written", x, 0, Crafts.summed(due));
    }

    private static void add() {
        PackPost x = new PackPost();
        Due.is("6: NUMBER ahead of STATE", x.add(1, 256, 0, 0, 0), PackPost.NUMBER);
        Due.is("6: no draft", x.add(-1, 0, 0, 0, 0), PackPost.STATE);
        x.draft(0, 0, 0);
        Due.is("6: no row", x.add(1, 2, 3, 4, 5), PackPost.STATE);
        x.row(9, 0);
        Due.is("6: a is -2", x.add(-2, -1, 0, 0, 0), PackPost.NUMBER);
        Due.is("6: e is 256", x.add(1, 2, 3, 4, 256), PackPost.NUMBER);
        Due.is("6: a refusal adds nothing", x.add(-1, 0, 0, 0, 0), 0);
        Due.is("6: what stands behind -1 is free", x.add(7, -1, 999, -5, -1), 1);
        Due.is("6: five", x.add(255, 0, 1, 2, 3), 6);
        Due.is("6: nothing", x.add(-1, 256, 256, 256, 256), 6);
        x.row(8, 0);
        Due.is("6: of the latest row", x.add(4, 5, -1, -1, -1), 2);
        Due.is("6: four", x.add(6, 7, 8, 9, -1), 6);
        x.pack(0);
        Crafts.sameBytes("6: written", x, 0, Crafts.summed(80, 75, 0, 0, 0, 0, 0, 2,
            9, 0, 0, 6, 0, 6, 8, 0, 0, 6, 0, 6, 7, 255, 0, 1, 2, 3, 4, 5, 6, 7, 8, 9));
        Due.is("6: no draft behind pack", x.add(1, -1, -1, -1, -1), PackPost.STATE);
        x.draft(0, 0, 0);
        x.row(0, 0);
        for (int i = 1; i <= 23; i++) {
            Due.is("6: longer", x.add(1, 2, 3, 4, 5), 5 * i);
        }
        Due.is("6: 118", x.add(1, 2, 3, -1, -1), 118);
        Due.is("6: NUMBER ahead of FULL", x.add(1, 2, 300, -1, -1), PackPost.NUMBER);
        Due.is("6: above 120", x.add(1, 2, 3, -1, -1), PackPost.FULL);
        Due.is("6: just 120", x.add(1, 2, -1, -1, -1), 120);
        Due.is("6: 121", x.add(1, -1, -1, -1, -1), PackPost.FULL);
        Due.is("6: nothing fits always", x.add(-1, -1, -1, -1, -1), 120);
    }

    private static void again() {
        PackPost x = new PackPost();
        Due.is("7: NUMBER ahead of STATE", x.again(0, 0), PackPost.NUMBER);
        Due.is("7: no draft", x.again(1, 1), PackPost.STATE);
        x.draft(0, 0, 0);
        Due.is("7: no row", x.again(1, 1), PackPost.STATE);
        x.row(0, 0);
        Due.is("7: empty page", x.again(1, 0), PackPost.STATE);
        x.add(10, 20, 30, -1, -1);
        Due.is("7: n is -1", x.again(1, -1), PackPost.NUMBER);
        Due.is("7: n is 121", x.again(1, 121), PackPost.NUMBER);
        Due.is("7: back is 0", x.again(0, 1), PackPost.NUMBER);
        Due.is("7: back is 121", x.again(121, 1), PackPost.NUMBER);
        Due.is("7: fewer than back", x.again(4, 1), PackPost.STATE);
        Due.is("7: STATE ahead of FULL", x.again(4, 120), PackPost.STATE);
        Due.is("7: none", x.again(3, 0), 3);
        Due.is("7: over itself", x.again(2, 5), 8);
        Due.is("7: back 8", x.again(8, 1), 9);
        Due.is("7: above 120", x.again(1, 112), PackPost.FULL);
        x.row(1, 0);
        Due.is("7: of the latest row", x.again(1, 1), PackPost.STATE);
        x.pack(0);
        Crafts.sameBytes("7: written", x, 0, Crafts.summed(80, 75, 0, 0, 0, 0, 0, 2,
            0, 0, 0, 9, 0, 9, 1, 0, 0, 0, 0, 0, 10, 20, 30, 20, 30, 20, 30, 20, 10));
        x.draft(0, 0, 0);
        x.row(0, 0);
        x.add(1, -1, -1, -1, -1);
        Due.is("7: just 120", x.again(1, 119), 120);
        Due.is("7: back 120", x.again(120, 0), 120);
        Due.is("7: 121", x.again(120, 1), PackPost.FULL);
    }

    private static void packForm() {
        PackPost x = new PackPost();
        x.draft(3, 1, 0);
        x.row(17, 1);
        x.add(5, 5, 5, 9, -1);
        x.row(18, 2);
        x.add(1, 2, 3, -1, 0);
        x.again(3, 7);
        x.row(33, 0);
        Due.is("8: number", x.pack(0), 0);
        Crafts.sameBytes("8: unsigned", x, 0, 80, 75, 3, 1, 0, 0, 0, 3, 17, 1, 0, 4, 0, 4,
            18, 2, 0, 10, 0, 6, 33, 0, 0, 0, 0, 0, 3, 5, 1, 9, 2, 1, 2, 3, 132, 3, 135, 163, 255, 244);
        Due.is("8: the draft is none then", x.pack(0), PackPost.STATE);
        x.draft(63, 99, 1);
        x.need(7, 5, true);
        x.need(0, 99, false);
        x.seal(15);
        x.seal(0);
        x.row(255, 0);
        x.add(255, 0, -1, -1, -1);
        Due.is("8: next number", x.pack(-123456789), 1);
        Crafts.sameBytes("8: signed", x, 1, 80, 75, 63, 99, 3, 2, 7, 5, 1, 0, 99, 0, 2, 15, 0, 1,
            255, 0, 0, 2, 0, 2, 255, 0, 70, 1, 111, 104, 10, 120, 12, 133);
    }

    private static void packRefusals() {
        PackPost x = new PackPost();
        // The head has 8 + 36 bytes, the pages 600, the SUM 4: 52 more make 700.
        Crafts.longDraft(x, 5, 53);
        Due.is("8: 701 bytes", x.pack(0), PackPost.FULL);
        Due.is("8: the refused draft stays", x.add(-1, -1, -1, -1, -1), 53);
        Crafts.longDraft(x, 5, 52);
        Due.is("8: 704 bytes with the SIGN", x.pack(1), PackPost.FULL);
        Due.is("8: just 700 bytes", x.pack(0), 0);
        Due.is("8: its length", x.length(0), 700);
        Due.is("8: it is a pack", x.check(0), -1);
        for (int p = 1; p < 16; p++) {
            x.draft(0, 0, 0);
            Due.is("8: numbered as they come", x.pack(p), p);
        }
        Due.is("8: STATE ahead of FULL", x.pack(0), PackPost.STATE);
        x.draft(0, 0, 0);
        Due.is("8: there are 16", x.pack(0), PackPost.FULL);
        Due.is("8: the draft stays", x.seal(1), 1);
    }

    private static void writesPairs() {
        Due.is("writing 1: empty", sizeOf(1), 0);
        written("writing 1: changes", 1, new int[] {0, 1, 1, 0, 0, 0}, 1, 0, 2, 1, 3, 0);
        int[] like = new int[120];
        java.util.Arrays.fill(like, 200);
        written("writing 1: 120 like bytes", 1, like, 120, 200);
        like[119] = 7;
        written("writing 1: the last one differs", 1, like, 119, 200, 1, 7);
    }

    private static void writesOps() {
        Due.is("writing 2: empty", sizeOf(2), 0);
        written("writing 2: one byte", 2, new int[] {9}, 0, 9);
        written("writing 2: two like bytes", 2, new int[] {9, 9}, 1, 9, 9);
        written("writing 2: three like bytes", 2, new int[] {9, 9, 9}, 2, 9, 9, 9);
        written("writing 2: four like bytes", 2, new int[] {9, 9, 9, 9}, 0, 9, 128, 1);
        written("writing 2: three again", 2, new int[] {1, 2, 3, 1, 2, 3}, 2, 1, 2, 3, 128, 3);
        written("writing 2: two again", 2, new int[] {1, 2, 3, 1, 2, 4}, 5, 1, 2, 3, 1, 2, 4);
        written("writing 2: the longest", 2, new int[] {1, 2, 3, 4, 8, 1, 2, 3, 9, 1, 2, 3, 4},
            4, 1, 2, 3, 4, 8, 128, 5, 0, 9, 129, 9);
        written("writing 2: of several the nearest", 2, new int[] {1, 2, 3, 8, 1, 2, 3, 9, 1, 2, 3, 7},
            3, 1, 2, 3, 8, 128, 4, 0, 9, 128, 4, 0, 7);
        written("writing 2: at the first place that has one", 2, new int[] {1, 2, 3, 2, 3, 4, 5, 1, 2, 3, 4, 5},
            6, 1, 2, 3, 2, 3, 4, 5, 128, 7, 1, 4, 5);
        int[] like = new int[120];
        written("writing 2: over the place itself", 2, like, 0, 0, 244, 1);
        int[] all = new int[120];
        int[] due = new int[121];
        due[0] = 119;
        for (int i = 0; i < 120; i++) {
            all[i] = i;
            due[i + 1] = i;
        }
        written("writing 2: 120 other bytes", 2, all, due);
        all[117] = 0;
        all[118] = 1;
        all[119] = 2;
        due = java.util.Arrays.copyOf(due, 120);
        due[0] = 116;
        due[118] = 128;
        due[119] = 117;
        written("writing 2: from far ahead", 2, all, due);
    }

    private static int sizeOf(int packing) {
        PackPost x = new PackPost();
        x.draft(0, 0, 0);
        x.row(0, packing);
        x.pack(0);
        Due.is("writing: length of the page", x.octet(0, 11), 0);
        return x.octet(0, 13);
    }

    private static void written(String what, int packing, int[] page, int... due) {
        PackPost x = new PackPost();
        x.draft(0, 0, 0);
        x.row(0, packing);
        for (int b : page) {
            x.add(b, -1, -1, -1, -1);
        }
        x.pack(0);
        int[] head = {80, 75, 0, 0, 0, 0, 0, 1, 0, packing, 0, page.length, 0, due.length};
        Crafts.sameBytes(what, x, 0, Crafts.summed(Crafts.join(head, due)));
        Due.is(what + ": check", x.check(0), -1);
        Due.is(what + ": open", x.open(0, 0), 0);
        for (int i = 0; i < page.length; i++) {
            Due.is(what + ": read " + i, x.read(0, 0, i), page[i]);
        }
        Due.is(what + ": read behind", x.read(0, 0, page.length), -1);
    }
}
