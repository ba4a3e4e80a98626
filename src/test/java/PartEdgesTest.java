import java.util.Arrays;

/** Promises 15 to 21 at their edges: a method for each sentence that names one. */
public final class PartEdgesTest {
    public static void main(String[] args) {
        partsCount();
        partsNoneSuch();
        partsSizes();
        loadWritesThePart();
        loadLengths();
        loadInPlaceOfWhatWas();
        loadNumbers();
        tapeNoneSuch();
        bendXors();
        bendNumbers();
        takeEmptyTape();
        takeLeastTape();
        takeMark();
        takePackNumber();
        takeHowMany();
        takeOwnNumber();
        takeSum();
        takeMixed();
        takeTwice();
        takeFullOfPacks();
        takeFullOfBytes();
        takeFullBehindAnother();
        takeOthersMissing();
        takeLastOne();
        takeTapeStays();
        takeWhateverTheyAre();
        bookWants();
        bookParts();
        bookNumbers();
        dropEmpties();
        dropNumbers();
        Due.end("PartEdgesTest");
    }

    private static PackPost withBytes(int n) {
        PackPost x = new PackPost();
        Crafts.packOf(x, n);
        return x;
    }

    /** Loads part i and makes it one of this pack, number and how many. */
    private static void loadAs(PackPost x, int size, int i, int p, int number, int many) {
        x.load(0, size, i);
        setTape(x, 1, p);
        setTape(x, 2, number);
        setTape(x, 3, many);
        Crafts.resumTape(x);
    }

    private static void setTape(PackPost x, int k, int b) {
        if (x.tape(k) != b) {
            x.bend(k, x.tape(k) ^ b);
        }
    }

    // ---- parts

    private static void partsCount() {
        Due.sentence("Term 3: how many are needed for its bytes, m in each but the last one");
        int[][] due = {{1, 8, 1}, {7, 8, 1}, {8, 8, 1}, {9, 8, 2}, {16, 8, 2}, {17, 8, 3}, {1, 100, 1}, {99, 100, 1},
            {100, 100, 1}, {101, 100, 2}, {200, 100, 2}, {201, 100, 3}, {700, 8, 88}, {697, 8, 88}, {696, 8, 87},
            {700, 100, 7}, {699, 100, 7}, {601, 100, 7}, {600, 100, 6}, {700, 99, 8}, {693, 99, 7}};
        for (int[] d : due) {
            Due.is(d[0] + " by " + d[1], withBytes(d[0]).parts(0, d[1]), d[2]);
        }
        PackPost x = withBytes(700);
        for (int size = 8; size <= 100; size++) {
            int many = 0;
            for (int bytes = 0; bytes < 700; bytes += size) {
                many++;
            }
            Due.is("700 by " + size, x.parts(0, size), many);
        }
    }

    private static void partsNoneSuch() {
        Due.sentence("15: NUMBER: there is none such");
        PackPost x = withBytes(20);
        for (int p : Crafts.beyond(0, 0)) {
            Due.is("pack " + p, x.parts(p, 8), PackPost.NUMBER);
        }
    }

    private static void partsSizes() {
        Due.sentence("15: NUMBER: size isn't 8 .. 100.");
        PackPost x = withBytes(20);
        for (int size : Crafts.beyond(8, 100)) {
            Due.is("size " + size, x.parts(0, size), PackPost.NUMBER);
        }
        Due.is("size 0", x.parts(0, 0), PackPost.NUMBER);
        Due.is("size -8", x.parts(0, -8), PackPost.NUMBER);
        Due.is("size 8", x.parts(0, 8), 3);
        Due.is("size 100", x.parts(0, 100), 1);
    }

    // ---- load

    private static void tapeIs(String what, PackPost x, int... ahead) {
        int[] due = withSum(ahead);
        for (int k = 0; k < due.length; k++) {
            Due.is(what + ": tape " + k, x.tape(k), due[k]);
        }
        Due.is(what + ": tape behind", x.tape(due.length), -1);
    }

    private static void loadWritesThePart() {
        Due.sentence("Term 3: PART i is 112, p, i, how many, its bytes, and the SUM of all these from 2, four bytes");
        PackPost x = withBytes(17);
        int[] bytes = {80, 75, 0, 0, 0, 0, 0, 6, 0, 0, 0, 120, 0, 120, 1, 0, 0};
        x.load(0, 8, 0);
        tapeIs("the first", x, Crafts.join(new int[] {112, 0, 0, 3}, Arrays.copyOfRange(bytes, 0, 8)));
        x.load(0, 8, 1);
        tapeIs("the second", x, Crafts.join(new int[] {112, 0, 1, 3}, Arrays.copyOfRange(bytes, 8, 16)));
        x.load(0, 8, 2);
        tapeIs("the last", x, 112, 0, 2, 3, bytes[16]);
        x.load(0, 16, 1);
        tapeIs("the last by 16", x, 112, 0, 1, 2, bytes[16]);
        x.load(0, 17, 0);
        tapeIs("the only one", x, Crafts.join(new int[] {112, 0, 0, 1}, bytes));
        Crafts.smallPacks(x, 15);
        x.load(15, 100, 0);
        tapeIs("of pack 15", x, Crafts.join(new int[] {112, 15, 0, 1}, Crafts.summed(80, 75, 0, 0, 0, 0, 0, 0)));
    }

    private static void loadLengths() {
        Due.sentence("16: THE TAPE is PART i of a pack: how many bytes.");
        PackPost x = withBytes(700);
        Due.is("8 and 8", x.load(0, 8, 0), 16);
        Due.is("the last 4 of 700", x.load(0, 8, 87), 12);
        Due.is("a whole one ahead of it", x.load(0, 8, 86), 16);
        Due.is("the most", x.load(0, 100, 0), 108);
        Due.is("a last one that is whole", x.load(0, 100, 6), 108);
        x.trim(0, 699);
        Due.is("a last one that lacks one", x.load(0, 100, 6), 107);
        x.trim(0, 601);
        Due.is("a last one of one byte", x.load(0, 100, 6), 9);
        x.trim(0, 1);
        Due.is("the least", x.load(0, 8, 0), 9);
    }

    private static void loadInPlaceOfWhatWas() {
        Due.sentence("16: THE TAPE is PART i: nothing is left of a longer one, nor of bends");
        PackPost x = withBytes(101);
        x.load(0, 100, 0);
        x.bend(50, 1);
        x.bend(0, 1);
        Due.is("a shorter one", x.load(0, 100, 1), 9);
        for (int k = 9; k < 109; k++) {
            Due.is("tape " + k, x.tape(k), -1);
        }
        Due.is("its mark", x.tape(0), 112);
        x.load(0, 100, 0);
        Due.is("the bend is gone", x.tape(50), x.octet(0, 46));
        x.spoil(0, 46, 255);
        Due.is("the tape has what the pack had", x.tape(50), x.octet(0, 46) ^ 255);
    }

    private static void loadNumbers() {
        Due.sentence("16: NUMBER: there is none such, size isn't 8 .. 100, there is no PART i.");
        PackPost x = withBytes(24);
        for (int p : Crafts.beyond(0, 0)) {
            Due.is("pack " + p, x.load(p, 8, 0), PackPost.NUMBER);
        }
        for (int size : Crafts.beyond(8, 100)) {
            Due.is("size " + size, x.load(0, size, 0), PackPost.NUMBER);
        }
        for (int i : Crafts.beyond(0, 2)) {
            Due.is("part " + i, x.load(0, 8, i), PackPost.NUMBER);
        }
        Due.is("nothing is loaded", x.take(), PackPost.STATE);
        Due.is("the first", x.load(0, 8, 0), 16);
        Due.is("the last", x.load(0, 8, 2), 16);
        Due.is("the only one", x.load(0, 24, 0), 32);
        Due.is("one behind the only one", x.load(0, 24, 1), PackPost.NUMBER);
        Due.is("one behind the only one by 100", x.load(0, 100, 1), PackPost.NUMBER);
        Due.is("part 88 of 88", withBytes(700).load(0, 8, 88), PackPost.NUMBER);
    }

    // ---- tape and bend

    private static void tapeNoneSuch() {
        Due.sentence("17: Byte k of the tape; -1 if there is none such.");
        PackPost x = withBytes(700);
        Due.is("an empty tape", x.tape(0), -1);
        x.load(0, 100, 0);
        for (int k : Crafts.beyond(0, 107)) {
            Due.is("byte " + k, x.tape(k), -1);
        }
        Due.is("the first", x.tape(0), 112);
        Due.isTrue("the last", x.tape(107) >= 0);
        x.trim(0, 1);
        x.load(0, 8, 0);
        Due.is("the last byte of the least", x.tape(8) >= 0 ? 1 : 0, 1);
        Due.is("behind the least", x.tape(9), -1);
    }

    private static void bendXors() {
        Due.sentence("18: Byte k of the tape is xored with mask: 1.");
        PackPost x = withBytes(8);
        x.load(0, 8, 0);
        for (int k = 0; k < 16; k++) {
            int was = x.tape(k);
            int mask = k == 15 ? 255 : 1 << k % 8;
            Due.is("bend " + k, x.bend(k, mask), 1);
            Due.is("byte " + k, x.tape(k), was ^ mask);
        }
        Due.is("the pack isn't bent", x.octet(0, 0), 80);
    }

    private static void bendNumbers() {
        Due.sentence("18: NUMBER: there is none such, mask isn't 1 .. 255.");
        PackPost x = withBytes(8);
        Due.is("an empty tape", x.bend(0, 1), PackPost.NUMBER);
        x.load(0, 8, 0);
        for (int k : Crafts.beyond(0, 15)) {
            Due.is("byte " + k, x.bend(k, 1), PackPost.NUMBER);
        }
        for (int mask : Crafts.beyond(1, 255)) {
            Due.is("mask " + mask, x.bend(0, mask), PackPost.NUMBER);
        }
        Due.is("mask -1", x.bend(0, -1), PackPost.NUMBER);
        Due.is("it stays", x.tape(0), 112);
        Due.is("mask 1", x.bend(0, 1), 1);
        Due.is("mask 255", x.bend(15, 255), 1);
    }

    // ---- take

    private static void takeEmptyTape() {
        Due.sentence("19: STATE: the tape is empty");
        PackPost x = new PackPost();
        Due.is("a new one", x.take(), PackPost.STATE);
        Crafts.packOf(x, 8);
        x.load(0, 8, 1);
        Due.is("behind a refused load", x.take(), PackPost.STATE);
        x.load(0, 8, 0);
        Due.is("not empty", x.take(), 101);
    }

    private static void takeLeastTape() {
        Due.sentence("19: SPOILED: it has fewer than 9 bytes");
        PackPost x = withBytes(1);
        Due.is("9 bytes", x.load(0, 8, 0), 9);
        Due.is("are enough", x.take(), 101);
        Due.is("for the one byte", x.length(1), 1);
    }

    private static void takeMark() {
        Due.sentence("19: SPOILED: doesn't begin with 112");
        for (int mark = 0; mark <= 255; mark++) {
            PackPost x = withBytes(9);
            x.load(0, 8, 0);
            setTape(x, 0, mark);
            Crafts.resumTape(x);
            Due.is("mark " + mark, x.take(), mark == 112 ? 0 : PackPost.SPOILED);
        }
    }

    private static void takePackNumber() {
        Due.sentence("19: SPOILED: its number of a pack is above 15");
        for (int p = 0; p <= 255; p++) {
            PackPost x = withBytes(9);
            loadAs(x, 8, 0, p, 0, 2);
            Due.is("pack " + p, x.take(), p <= 15 ? 0 : PackPost.SPOILED);
            Due.is("book " + p, x.book(p, 1), p <= 15 ? 1 : PackPost.NUMBER);
        }
    }

    private static void takeHowMany() {
        Due.sentence("19: SPOILED: how many isn't 1 .. 88");
        for (int many = 0; many <= 255; many++) {
            PackPost x = withBytes(9);
            loadAs(x, 8, 0, 0, 0, many);
            int due = many < 1 || many > 88 ? PackPost.SPOILED : many == 1 ? 101 : 0;
            Due.is("of " + many, x.take(), due);
            Due.is("the book wants of " + many, x.book(0, 0), due == 0 ? many : 0);
        }
    }

    private static void takeOwnNumber() {
        Due.sentence("19: SPOILED: or its own number not below that");
        for (int many : new int[] {1, 2, 88}) {
            for (int i = 0; i <= 255; i++) {
                PackPost x = withBytes(9);
                loadAs(x, 8, 0, 0, i, many);
                Due.is("part " + i + " of " + many, x.take(), i >= many ? PackPost.SPOILED : many == 1 ? 101 : 0);
                Due.is("part " + i + " of " + many + " came", x.book(0, 2 + i), i < many && many > 1 ? 1 : 0);
            }
        }
    }

    private static void takeSum() {
        Due.sentence("19: SPOILED: or the SUM is another one");
        PackPost x = withBytes(17);
        x.load(0, 8, 0);
        for (int k = 0; k < 16; k++) {
            for (int bit = 0; bit < 8; bit++) {
                x.bend(k, 1 << bit);
                Due.is("bit " + bit + " of byte " + k, x.take(), PackPost.SPOILED);
                x.bend(k, 1 << bit);
            }
        }
        Due.is("nothing came", x.book(0, 1), 0);
        Due.is("as it was", x.take(), 0);
    }

    private static void takeMixed() {
        Due.sentence("19: MIXED: Another PART with this number has another how many.");
        for (int many = 1; many <= 88; many++) {
            PackPost x = withBytes(24);
            x.load(0, 8, 2);
            Due.is("part 2 of 3", x.take(), 0);
            loadAs(x, 8, 0, 0, 0, many);
            Due.is("part 0 of " + many, x.take(), many == 3 ? 0 : PackPost.MIXED);
            Due.is("wants 3", x.book(0, 0), 3);
            Due.is("came", x.book(0, 1), many == 3 ? 2 : 1);
        }
    }

    private static void takeTwice() {
        Due.sentence("19: TWICE: it was taken already (whatever its bytes are)");
        PackPost x = withBytes(24);
        x.load(0, 8, 1);
        Due.is("first", x.take(), 0);
        Due.is("the same", x.take(), PackPost.TWICE);
        x.bend(4, 1);
        Crafts.resumTape(x);
        Due.is("other bytes", x.take(), PackPost.TWICE);
        x.load(0, 11, 1);
        Due.is("more bytes", x.take(), PackPost.TWICE);
        loadAs(x, 8, 1, 1, 1, 3);
        Due.is("another book's isn't", x.take(), 0);
        x.load(0, 8, 0);
        Due.is("part 0", x.take(), 0);
        Due.is("part 0 again", x.take(), PackPost.TWICE);
        x.load(0, 8, 2);
        Due.is("the last", x.take(), 101);
        Due.is("the first that came counts", x.length(1), 24);
        for (int i = 0; i < 24; i++) {
            Due.is("byte " + i, x.octet(1, i), x.octet(0, i));
        }
        Due.is("of an empty book none was taken", x.take(), 0);
    }

    private static void takeFullOfPacks() {
        Due.sentence("19: FULL: it is the last one, and there are 16 packs");
        PackPost x = withBytes(24);
        Crafts.smallPacks(x, 14);
        x.load(0, 8, 0);
        x.take();
        x.load(0, 8, 1);
        x.take();
        x.load(0, 100, 0);
        setTape(x, 1, 7);
        Crafts.resumTape(x);
        Due.is("the sixteenth", x.take(), 115);
        Due.is("one more", x.take(), PackPost.FULL);
        Due.is("its book stays empty", x.book(7, 0), 0);
        x.load(0, 8, 2);
        Due.is("the last of three", x.take(), PackPost.FULL);
        Due.is("the book keeps two", x.book(0, 1), 2);
        Due.is("the last didn't come", x.book(0, 4), 0);
        loadAs(x, 8, 2, 3, 2, 3);
        Due.is("one that isn't the last", x.take(), 0);
    }

    private static void takeFullOfBytes() {
        Due.sentence("19: FULL: it is the last one, and there would be more than 700 bytes.");
        int[][] runs = {{100, 100, 100, 100, 100, 100, 100}, {100, 100, 100, 100, 100, 100, 92, 8},
            {100, 100, 100, 100, 100, 100, 100, 1}, {99, 99, 99, 99, 99, 99, 99, 8}};
        int[] totals = {700, 700, 701, 701};
        for (int n = 0; n < runs.length; n++) {
            PackPost x = withBytes(700);
            int many = runs[n].length;
            for (int i = 0; i < many; i++) {
                loadBytes(x, runs[n][i], i, many);
                int due = i < many - 1 ? 0 : totals[n] > 700 ? PackPost.FULL : 101;
                Due.is("run " + n + " part " + i, x.take(), due);
            }
            boolean full = totals[n] > 700;
            Due.is("run " + n + ": the book", x.book(0, 1), full ? many - 1 : 0);
            Due.is("run " + n + ": the pack", x.length(1), full ? PackPost.NUMBER : 700);
        }
        PackPost x = withBytes(700);
        for (int i = 0; i < 49; i++) {
            loadBytes(x, 100, i, 50);
            Due.is("4900 bytes, while others are missing", x.take(), 0);
        }
        loadBytes(x, 8, 49, 50);
        Due.is("4908 bytes", x.take(), PackPost.FULL);
        Due.is("49 came", x.book(0, 1), 49);
        Due.is("dropped", x.drop(0), 49);
    }

    private static void takeFullBehindAnother() {
        Due.sentence("19: there would be more than 700 bytes: what a BOOK had before it was empty counts no more");
        PackPost x = withBytes(700);
        loadBytes(x, 100, 0, 2);
        x.take();
        Due.is("dropped", x.drop(0), 1);
        for (int i = 0; i < 7; i++) {
            x.load(0, 100, i);
            Due.is("700 bytes behind a drop", x.take(), i < 6 ? 0 : 101);
        }
        for (int i = 0; i < 7; i++) {
            x.load(0, 100, i);
            Due.is("700 bytes behind a join", x.take(), i < 6 ? 0 : 102);
        }
        for (int i = 0; i < 7; i++) {
            loadBytes(x, 100, i, 8);
            x.take();
        }
        loadBytes(x, 1, 7, 8);
        Due.is("701 bytes behind a join", x.take(), PackPost.FULL);
        x.drop(0);
        PackPost y = withBytes(700);
        loadBytes(y, 8, 0, 2);
        y.take();
        y.drop(0);
        for (int i = 0; i < 7; i++) {
            loadBytes(y, 100, i, 8);
            y.take();
        }
        loadBytes(y, 1, 7, 8);
        Due.is("701 bytes behind a drop", y.take(), PackPost.FULL);
    }

    /**
     * The tape is a part of pack 0 (of 700 bytes) with so many bytes, by this number and how many. Its bytes are
     * known, so no calls are spent on asking for them.
     */
    private static void loadBytes(PackPost x, int bytes, int number, int many) {
        if (bytes < 8) {
            x.trim(0, 100 + bytes);
            loadAs(x, 100, 1, 0, number, many);
            return;
        }
        x.load(0, bytes, 0);
        int[] known = Arrays.copyOf(Crafts.bytesOfPack(), bytes);
        int[] is = withSum(Crafts.join(new int[] {112, 0, 0, (699 + bytes) / bytes}, known));
        int[] due = withSum(Crafts.join(new int[] {112, 0, number, many}, known));
        for (int k = 0; k < due.length; k++) {
            if (is[k] != due[k]) {
                x.bend(k, is[k] ^ due[k]);
            }
        }
    }

    private static int[] withSum(int[] ahead) {
        return Crafts.join(ahead, Crafts.four(Crafts.sum(2, ahead, ahead.length)));
    }

    private static void takeOthersMissing() {
        Due.sentence("19: 0 if it is taken, and others are missing");
        PackPost x = withBytes(700);
        for (int i = 0; i < 87; i++) {
            x.load(0, 8, i);
            Due.is("part " + i + " of 88", x.take(), 0);
        }
        Due.is("87 came", x.book(0, 1), 87);
        x.load(0, 8, 87);
        Due.is("the last one", x.take(), 101);
        Due.is("700 bytes", x.length(1), 700);
        Due.is("a pack", x.check(1), -1);
    }

    private static void takeLastOne() {
        Due.sentence("19: 100 and a pack's number if it is the last one that was missing: all bytes, in order");
        int[][] orders = {{0, 1, 2}, {0, 2, 1}, {1, 0, 2}, {1, 2, 0}, {2, 0, 1}, {2, 1, 0}};
        PackPost x = withBytes(23);
        for (int n = 0; n < orders.length; n++) {
            for (int k = 0; k < 3; k++) {
                x.load(0, 8, orders[n][k]);
                Due.is("order " + n + " part " + k, x.take(), k < 2 ? 0 : 101 + n);
            }
            for (int i = 0; i < 24; i++) {
                Due.is("order " + n + " byte " + i, x.octet(1 + n, i), x.octet(0, i));
            }
            Due.is("THE BOOK is empty then: wants", x.book(0, 0), 0);
            Due.is("THE BOOK is empty then: came", x.book(0, 1), 0);
            Due.is("THE BOOK is empty then: part 0", x.book(0, 2), 0);
            Due.is("THE BOOK is empty then: part 2", x.book(0, 4), 0);
        }
        x.load(0, 100, 0);
        Due.is("one part alone", x.take(), 107);
        Due.is("its book is empty then", x.book(0, 0), 0);
    }

    private static void takeTapeStays() {
        Due.sentence("19: The tape comes as a PART (it stays)");
        PackPost x = withBytes(20);
        x.load(0, 10, 0);
        int[] was = new int[18];
        for (int k = 0; k < 18; k++) {
            was[k] = x.tape(k);
        }
        x.take();
        x.take();
        for (int k = 0; k < 18; k++) {
            Due.is("byte " + k, x.tape(k), was[k]);
        }
        Due.is("behind", x.tape(18), -1);
        x.load(0, 100, 0);
        setTape(x, 1, 9);
        Crafts.resumTape(x);
        Due.is("joined", x.take(), 101);
        Due.is("it stays then, too", x.tape(27) >= 0 ? 1 : 0, 1);
        Due.is("and comes again", x.take(), 102);
        x.bend(4, 255);
        Due.is("what was taken isn't bent", x.octet(2, 0), 80);
    }

    private static void takeWhateverTheyAre() {
        Due.sentence("19: are a pack more, whatever they are");
        PackPost x = withBytes(1);
        x.spoil(0, 0, 255);
        x.load(0, 8, 0);
        Due.is("one byte that begins no pack", x.take(), 101);
        Due.is("is WRONG at once", x.check(1), 0);
        Due.is("and can be cut again", x.parts(1, 8), 1);
    }

    // ---- book and drop

    private static void bookWants() {
        Due.sentence("20: what = 0 how many PARTS it wants (0 if it is empty), 1 how many came");
        for (int many : new int[] {2, 3, 87, 88}) {
            PackPost x = withBytes(8);
            Due.is("empty", x.book(5, 0), 0);
            Due.is("none came", x.book(5, 1), 0);
            loadAs(x, 8, 0, 5, many - 1, many);
            x.take();
            Due.is("wants " + many, x.book(5, 0), many);
            Due.is("one came of " + many, x.book(5, 1), 1);
            loadAs(x, 8, 0, 5, 0, many);
            x.take();
            Due.is("two came of " + many, x.book(5, 1), many == 2 ? 0 : 2);
            Due.is("wants still " + many, x.book(5, 0), many == 2 ? 0 : many);
            Due.is("the book ahead", x.book(4, 1), 0);
            Due.is("the book behind", x.book(6, 1), 0);
        }
    }

    private static void bookParts() {
        Due.sentence("20: 2 + i: 1 if PART i came, else 0.");
        PackPost x = withBytes(8);
        for (int i : new int[] {0, 1, 43, 87}) {
            loadAs(x, 8, 0, 0, i, 88);
            x.take();
        }
        for (int i = 0; i < 100; i++) {
            Due.is("part " + i, x.book(0, 2 + i), i == 0 || i == 1 || i == 43 || i == 87 ? 1 : 0);
        }
        Due.is("part far", x.book(0, Integer.MAX_VALUE), 0);
    }

    private static void bookNumbers() {
        Due.sentence("20: NUMBER: p isn't 0 .. 15, what is below 0.");
        PackPost x = new PackPost();
        for (int p : Crafts.beyond(0, 15)) {
            for (int what = 0; what < 4; what++) {
                Due.is("p " + p + " what " + what, x.book(p, what), PackPost.NUMBER);
            }
        }
        for (int p = 0; p <= 15; p++) {
            Due.is("p " + p, x.book(p, 0), 0);
            Due.is("what -1", x.book(p, -1), PackPost.NUMBER);
            Due.is("what -2", x.book(p, -2), PackPost.NUMBER);
            Due.is("what far below", x.book(p, Integer.MIN_VALUE), PackPost.NUMBER);
        }
    }

    private static void dropEmpties() {
        Due.sentence("21: THE BOOK of p is empty: how many PARTS it had.");
        PackPost x = withBytes(24);
        Due.is("an empty one", x.drop(0), 0);
        x.load(0, 8, 2);
        x.take();
        loadAs(x, 8, 0, 15, 0, 3);
        x.take();
        x.load(0, 8, 0);
        x.take();
        Due.is("two of three", x.drop(0), 2);
        Due.is("empty then", x.drop(0), 0);
        for (int what = 0; what < 5; what++) {
            Due.is("book " + what, x.book(0, what), 0);
        }
        Due.is("another stays", x.book(15, 1), 1);
        Due.is("the tape stays", x.take(), 0);
        Due.is("another how many", x.drop(0), 1);
        x.load(0, 12, 0);
        Due.is("of two then", x.take(), 0);
        Due.is("wants two", x.book(0, 0), 2);
        x.load(0, 12, 1);
        Due.is("nothing is left of what was dropped", x.take(), 101);
        Due.is("as long as it was", x.length(1), 24);
        Due.is("dropped behind the join", x.drop(0), 0);
    }

    private static void dropNumbers() {
        Due.sentence("21: NUMBER: p isn't 0 .. 15.");
        PackPost x = new PackPost();
        for (int p : Crafts.beyond(0, 15)) {
            Due.is("p " + p, x.drop(p), PackPost.NUMBER);
        }
        for (int p = 0; p <= 15; p++) {
            Due.is("p " + p, x.drop(p), 0);
        }
    }
}
