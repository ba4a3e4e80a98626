import java.util.Arrays;

/** Promises 1 to 8 at their edges: a method for each sentence that names one. */
public final class DraftEdgesTest {
    private static final int[] EMPTY = {80, 75, 0, 0, 0, 0, 0, 0};

    public static void main(String[] args) {
        newWithoutDraft();
        newWithoutPacks();
        newWithoutEntries();
        newWithEmptyTape();
        newWithEmptyBooks();
        newWhy();
        newBesideAnother();
        draftInPlaceOfWhatWas();
        draftNumbers();
        needCounts();
        needNumbers();
        needWithoutDraft();
        needTwice();
        needFull();
        sealCounts();
        sealNumbers();
        sealWithoutDraft();
        sealTwice();
        sealFull();
        rowCounts();
        rowNumbers();
        rowWithoutDraft();
        rowTwice();
        rowFull();
        rowEmptyPage();
        addUpToMinusOne();
        addNumbers();
        addWithoutRow();
        addFull();
        againCopies();
        againNumbers();
        againWithoutRow();
        againFewerBytes();
        againFull();
        packNumbered();
        packIsNoDraftThen();
        packSigned();
        packSumWraps();
        packWithoutDraft();
        packSixteen();
        packSevenHundred();
        writingPairs();
        writingLeastCopy();
        writingLongestAndNearest();
        writingPlainRuns();
        writingToTheEnd();
        Due.end("DraftEdgesTest");
    }

    private static PackPost drafting() {
        PackPost x = new PackPost();
        x.draft(0, 0, 0);
        return x;
    }

    /** A new object whose draft has one row, by packing 0, with a page of so many bytes. */
    private static PackPost withPage(int bytes) {
        PackPost x = drafting();
        x.row(0, 0);
        if (bytes > 0) {
            x.add(1, -1, -1, -1, -1);
            x.again(1, bytes - 1);
        }
        return x;
    }

    private static int addNothing(PackPost x) {
        return x.add(-1, -1, -1, -1, -1);
    }

    private static void writes(String what, PackPost x, int... aheadOfSum) {
        int p = x.pack(0);
        Crafts.sameBytes(what, x, p, Crafts.summed(aheadOfSum));
    }

    // ---- a new object

    private static void newWithoutDraft() {
        Due.sentence("1: No draft");
        PackPost x = new PackPost();
        Due.is("need", x.need(0, 0, false), PackPost.STATE);
        Due.is("seal", x.seal(0), PackPost.STATE);
        Due.is("row", x.row(0, 0), PackPost.STATE);
        Due.is("add", x.add(0, 0, 0, 0, 0), PackPost.STATE);
        Due.is("add of nothing", addNothing(x), PackPost.STATE);
        Due.is("again", x.again(1, 0), PackPost.STATE);
        Due.is("pack", x.pack(0), PackPost.STATE);
        Due.is("pack signed", x.pack(1), PackPost.STATE);
    }

    private static void newWithoutPacks() {
        Due.sentence("1: no packs");
        PackPost x = new PackPost();
        for (int p = 0; p < 16; p++) {
            Due.is("length " + p, x.length(p), PackPost.NUMBER);
            Due.is("octet " + p, x.octet(p, 0), -1);
            Due.is("spoil " + p, x.spoil(p, 0, 1), PackPost.NUMBER);
            Due.is("trim " + p, x.trim(p, 1), PackPost.NUMBER);
            Due.is("check " + p, x.check(p), -2);
            Due.is("signer " + p, x.signer(p, 0), PackPost.NUMBER);
            Due.is("parts " + p, x.parts(p, 8), PackPost.NUMBER);
            Due.is("load " + p, x.load(p, 8, 0), PackPost.NUMBER);
            Due.is("open " + p, x.open(p, 0), PackPost.NUMBER);
        }
    }

    private static void newWithoutEntries() {
        Due.sentence("1: no ENTRIES");
        PackPost x = new PackPost();
        for (int e = 0; e < 12; e++) {
            Due.is("entry " + e, x.entry(e, 0), -2);
            Due.is("close " + e, x.close(e), PackPost.NUMBER);
            Due.is("reopen " + e, x.reopen(e), PackPost.NUMBER);
            Due.is("overlay " + e, x.overlay(e, 11 - e), PackPost.NUMBER);
            Due.is("find " + e, x.find(e, 0), -2);
            Due.is("path " + e, x.path(e, 0, 0), -1);
            Due.is("page " + e, x.page(e, 0), -2);
            Due.is("read " + e, x.read(e, 0, 0), -1);
            Due.is("needed " + e, x.needed(e, 0), -1);
        }
        for (int name = 0; name < 64; name++) {
            Due.is("edition " + name, x.edition(name, 0), -1);
        }
    }

    private static void newWithEmptyTape() {
        Due.sentence("1: an empty tape");
        PackPost x = new PackPost();
        for (int k = 0; k < 108; k++) {
            Due.is("tape " + k, x.tape(k), -1);
            Due.is("bend " + k, x.bend(k, 1), PackPost.NUMBER);
        }
        Due.is("take", x.take(), PackPost.STATE);
    }

    private static void newWithEmptyBooks() {
        Due.sentence("1: empty BOOKS");
        for (int p = 0; p < 16; p++) {
            PackPost x = new PackPost();
            for (int what = 0; what < 2 + 88; what++) {
                Due.is("book " + p + " " + what, x.book(p, what), 0);
            }
            Due.is("drop " + p, x.drop(p), 0);
        }
    }

    private static void newWhy() {
        Due.sentence("1: why() is 0");
        Due.is("why", new PackPost().why(), 0);
    }

    private static void newBesideAnother() {
        Due.sentence("1: a new object has nothing of an older one");
        PackPost old = withPage(5);
        old.pack(0);
        old.open(0, 0);
        old.load(0, 8, 0);
        old.take();
        old.trim(0, 1);
        old.open(0, 0);
        old.draft(1, 1, 1);
        PackPost x = new PackPost();
        Due.is("draft", x.seal(0), PackPost.STATE);
        Due.is("pack", x.length(0), PackPost.NUMBER);
        Due.is("entry", x.entry(0, 0), -2);
        Due.is("tape", x.take(), PackPost.STATE);
        Due.is("book", x.book(0, 0), 0);
        Due.is("why", x.why(), 0);
        Due.is("the older one keeps its own", old.why(), 1);
    }

    // ---- draft

    private static void draftInPlaceOfWhatWas() {
        Due.sentence("2: A draft begins, without NEEDS, SEALS, ROWS, in place of what was: 1.");
        PackPost x = drafting();
        for (int i = 0; i < 4; i++) {
            x.need(i, 0, true);
            x.seal(i);
        }
        for (int r = 0; r < 8; r++) {
            x.row(r, 0);
            x.add(r, r, -1, -1, -1);
        }
        Due.is("draft", x.draft(63, 99, 1), 1);
        Due.is("no row for add", addNothing(x), PackPost.STATE);
        Due.is("no row for again", x.again(1, 0), PackPost.STATE);
        Due.is("the first need", x.need(0, 0, false), 1);
        Due.is("the first seal", x.seal(0), 1);
        Due.is("the first row", x.row(0, 0), 1);
        Due.is("its page is empty", addNothing(x), 0);
        x.draft(63, 99, 1);
        writes("nothing is left of it", x, 80, 75, 63, 99, 1, 0, 0, 0);
        Due.is("behind a pack", x.draft(1, 2, 0), 1);
        writes("nor of the pack", x, 80, 75, 1, 2, 0, 0, 0, 0);
    }

    private static void draftNumbers() {
        Due.sentence("2: NUMBER: name isn't 0 .. 63, edition not 0 .. 99, or manner not 0, 1.");
        int[][] most = {{63, 0, 0}, {0, 99, 0}, {0, 0, 1}, {0, 0, 0}, {63, 99, 1}};
        for (int[] m : most) {
            PackPost x = new PackPost();
            Due.is("taken " + Arrays.toString(m), x.draft(m[0], m[1], m[2]), 1);
            writes("written " + Arrays.toString(m), x, 80, 75, m[0], m[1], m[2], 0, 0, 0);
        }
        PackPost x = new PackPost();
        for (int name : Crafts.beyond(0, 63)) {
            Due.is("name " + name, x.draft(name, 0, 0), PackPost.NUMBER);
        }
        for (int edition : Crafts.beyond(0, 99)) {
            Due.is("edition " + edition, x.draft(0, edition, 0), PackPost.NUMBER);
        }
        for (int manner : Crafts.beyond(0, 1)) {
            Due.is("manner " + manner, x.draft(0, 0, manner), PackPost.NUMBER);
        }
        Due.is("no draft has begun", x.pack(0), PackPost.STATE);
    }

    // ---- need

    private static void needCounts() {
        Due.sentence("3: A NEED more: how many.");
        PackPost x = drafting();
        Due.is("first", x.need(5, 1, true), 1);
        Due.is("second", x.need(0, 0, false), 2);
        Due.is("third", x.need(63, 99, true), 3);
        Due.is("fourth", x.need(4, 98, false), 4);
        writes("in order", x, 80, 75, 0, 0, 0, 4, 5, 1, 1, 0, 0, 0, 63, 99, 1, 4, 98, 0, 0, 0);
    }

    private static void needNumbers() {
        Due.sentence("3: NUMBER: name isn't 0 .. 63, edition not 0 .. 99");
        PackPost x = drafting();
        for (int name : Crafts.beyond(0, 63)) {
            Due.is("name " + name, x.need(name, 0, true), PackPost.NUMBER);
        }
        for (int edition : Crafts.beyond(0, 99)) {
            Due.is("edition " + edition, x.need(0, edition, false), PackPost.NUMBER);
        }
        Due.is("name 0, edition 0", x.need(0, 0, true), 1);
        Due.is("name 63", x.need(63, 0, true), 2);
        Due.is("edition 99", x.need(1, 99, true), 3);
    }

    private static void needWithoutDraft() {
        Due.sentence("3: STATE: no draft");
        PackPost x = new PackPost();
        Due.is("before any", x.need(1, 1, true), PackPost.STATE);
        x.draft(0, 0, 0);
        Due.is("in a draft", x.need(1, 1, true), 1);
        x.pack(0);
        Due.is("behind pack", x.need(2, 1, true), PackPost.STATE);
        Due.is("behind pack, of a name that was", x.need(1, 1, true), PackPost.STATE);
    }

    private static void needTwice() {
        Due.sentence("3: TWICE: it has one of that NAME");
        PackPost x = new PackPost();
        x.draft(9, 0, 0);
        Due.is("the draft's own name is none", x.need(9, 0, true), 1);
        Due.is("the same", x.need(9, 0, true), PackPost.TWICE);
        Due.is("another edition", x.need(9, 1, true), PackPost.TWICE);
        Due.is("not exact", x.need(9, 0, false), PackPost.TWICE);
        x.need(0, 0, false);
        Due.is("the first of two", x.need(9, 0, true), PackPost.TWICE);
        Due.is("the last of two", x.need(0, 0, false), PackPost.TWICE);
        x.need(8, 0, false);
        Due.is("the middle of three", x.need(0, 5, false), PackPost.TWICE);
        Due.is("the next one to it", x.need(1, 5, false), 4);
    }

    private static void needFull() {
        Due.sentence("3: FULL: it has 4.");
        PackPost x = drafting();
        for (int i = 0; i < 3; i++) {
            x.need(i, 0, true);
        }
        Due.is("the fourth", x.need(3, 0, true), 4);
        Due.is("the fifth", x.need(4, 0, true), PackPost.FULL);
        Due.is("the fifth again", x.need(5, 0, true), PackPost.FULL);
        Due.is("seals are others", x.seal(0), 1);
        Due.is("rows are others", x.row(0, 0), 1);
    }

    // ---- seal

    private static void sealCounts() {
        Due.sentence("4: A SEAL more: how many.");
        PackPost x = drafting();
        Due.is("first", x.seal(7), 1);
        Due.is("second", x.seal(0), 2);
        Due.is("third", x.seal(15), 3);
        Due.is("fourth", x.seal(6), 4);
        writes("in order", x, 80, 75, 0, 0, 0, 0, 4, 7, 0, 15, 6, 0);
    }

    private static void sealNumbers() {
        Due.sentence("4: NUMBER: group isn't 0 .. 15");
        for (int group = 0; group <= 15; group++) {
            Due.is("group " + group, drafting().seal(group), 1);
        }
        PackPost x = drafting();
        for (int group : Crafts.beyond(0, 15)) {
            Due.is("group " + group, x.seal(group), PackPost.NUMBER);
        }
    }

    private static void sealWithoutDraft() {
        Due.sentence("4: STATE: no draft");
        PackPost x = new PackPost();
        Due.is("before any", x.seal(1), PackPost.STATE);
        x.draft(0, 0, 0);
        Due.is("in a draft", x.seal(1), 1);
        x.pack(0);
        Due.is("behind pack", x.seal(2), PackPost.STATE);
        Due.is("behind pack, one that was", x.seal(1), PackPost.STATE);
    }

    private static void sealTwice() {
        Due.sentence("4: TWICE");
        PackPost x = drafting();
        x.seal(0);
        Due.is("the only one", x.seal(0), PackPost.TWICE);
        x.seal(15);
        Due.is("the first", x.seal(0), PackPost.TWICE);
        Due.is("the last", x.seal(15), PackPost.TWICE);
        Due.is("another", x.seal(14), 3);
    }

    private static void sealFull() {
        Due.sentence("4: FULL: it has 4.");
        PackPost x = drafting();
        for (int i = 0; i < 3; i++) {
            x.seal(i);
        }
        Due.is("the fourth", x.seal(3), 4);
        Due.is("the fifth", x.seal(4), PackPost.FULL);
        Due.is("the fifth again", x.seal(15), PackPost.FULL);
        Due.is("needs are others", x.need(0, 0, true), 1);
        Due.is("rows are others", x.row(0, 0), 1);
    }

    // ---- row

    private static void rowCounts() {
        Due.sentence("5: A ROW more, its page empty: how many.");
        PackPost x = drafting();
        int[] due = {80, 75, 0, 0, 0, 0, 0, 8};
        for (int r = 0; r < 8; r++) {
            Due.is("row " + r, x.row(200 - r, r % 3), r + 1);
            due = Crafts.join(due, 200 - r, r % 3, 0, 0, 0, 0);
        }
        writes("in order", x, due);
    }

    private static void rowNumbers() {
        Due.sentence("5: NUMBER: key isn't 0 .. 255, packing not 0 .. 2");
        for (int key = 0; key <= 255; key++) {
            Due.is("key " + key, drafting().row(key, 0), 1);
        }
        for (int packing = 0; packing <= 2; packing++) {
            Due.is("packing " + packing, drafting().row(0, packing), 1);
        }
        PackPost x = drafting();
        for (int key : Crafts.beyond(0, 255)) {
            Due.is("key " + key, x.row(key, 0), PackPost.NUMBER);
        }
        for (int packing : Crafts.beyond(0, 2)) {
            Due.is("packing " + packing, x.row(0, packing), PackPost.NUMBER);
        }
        Due.is("no row came", addNothing(x), PackPost.STATE);
    }

    private static void rowWithoutDraft() {
        Due.sentence("5: STATE: no draft");
        PackPost x = new PackPost();
        Due.is("before any", x.row(1, 0), PackPost.STATE);
        x.draft(0, 0, 0);
        Due.is("in a draft", x.row(1, 0), 1);
        x.pack(0);
        Due.is("behind pack", x.row(2, 0), PackPost.STATE);
        Due.is("behind pack, one that was", x.row(1, 0), PackPost.STATE);
    }

    private static void rowTwice() {
        Due.sentence("5: TWICE");
        PackPost x = drafting();
        x.row(0, 0);
        Due.is("the only one", x.row(0, 0), PackPost.TWICE);
        Due.is("by another packing", x.row(0, 2), PackPost.TWICE);
        x.row(255, 1);
        Due.is("the first", x.row(0, 0), PackPost.TWICE);
        Due.is("the last", x.row(255, 1), PackPost.TWICE);
        Due.is("another of the group", x.row(254, 1), 3);
    }

    private static void rowFull() {
        Due.sentence("5: FULL: it has 8.");
        PackPost x = drafting();
        for (int r = 0; r < 7; r++) {
            x.row(r, 0);
        }
        Due.is("the eighth", x.row(7, 0), 8);
        Due.is("the ninth", x.row(8, 0), PackPost.FULL);
        Due.is("the ninth again", x.row(255, 2), PackPost.FULL);
        Due.is("needs are others", x.need(0, 0, true), 1);
        Due.is("seals are others", x.seal(0), 1);
        Due.is("the eighth has its page", x.add(1, 2, 3, 4, 5), 5);
    }

    private static void rowEmptyPage() {
        Due.sentence("5: its page empty");
        PackPost x = withPage(120);
        x.row(1, 0);
        Due.is("behind a full page", addNothing(x), 0);
        x.add(1, 2, 3, 4, 5);
        x.draft(0, 0, 0);
        x.row(0, 0);
        Due.is("where a page was before", addNothing(x), 0);
        Due.is("nothing to copy", x.again(1, 1), PackPost.STATE);
    }

    // ---- add

    private static void addUpToMinusOne() {
        Due.sentence("6: Bytes come behind the page of the latest ROW, those ahead of the first that is -1");
        for (int n = 0; n <= 5; n++) {
            PackPost x = drafting();
            x.row(3, 0);
            x.add(50, -1, -1, -1, -1);
            x.row(2, 0);
            int[] a = {10, 11, 12, 13, 14};
            if (n < 5) {
                a[n] = -1;
            }
            Due.is("with -1 at " + n, x.add(a[0], a[1], a[2], a[3], a[4]), n);
            int[] due = {80, 75, 0, 0, 0, 0, 0, 2, 3, 0, 0, 1, 0, 1, 2, 0, 0, n, 0, n, 50};
            writes("with -1 at " + n, x, Crafts.join(due, Arrays.copyOf(new int[] {10, 11, 12, 13, 14}, n)));
        }
        PackPost x = withPage(7);
        Due.is("behind what is there", x.add(8, 9, -1, 10, -1), 9);
    }

    private static void addNumbers() {
        Due.sentence("6: NUMBER: one of these isn't 0 .. 255");
        PackPost x = withPage(0);
        for (int place = 0; place < 5; place++) {
            for (int b : new int[] {-2, 256, Integer.MIN_VALUE, Integer.MAX_VALUE}) {
                int[] a = {1, 2, 3, 4, 5};
                a[place] = b;
                Due.is(b + " at " + place, x.add(a[0], a[1], a[2], a[3], a[4]), PackPost.NUMBER);
                int[] hidden = a.clone();
                hidden[place == 0 ? 0 : place - 1] = -1;
                int taken = place == 0 ? 0 : place - 1;
                Due.is(b + " behind -1 at " + place,
                    withPage(0).add(hidden[0], hidden[1], hidden[2], hidden[3], hidden[4]), taken);
            }
        }
        Due.is("none of them came", addNothing(x), 0);
        Due.is("0 and 255", x.add(0, 255, 0, 255, 0), 5);
        Due.is("255 and 0", x.add(255, 0, 255, 0, 255), 10);
    }

    private static void addWithoutRow() {
        Due.sentence("6: STATE: there is no ROW in a draft");
        PackPost x = new PackPost();
        Due.is("no draft", x.add(1, 2, 3, 4, 5), PackPost.STATE);
        x.draft(0, 0, 0);
        Due.is("no row", x.add(1, 2, 3, 4, 5), PackPost.STATE);
        Due.is("no row for nothing", addNothing(x), PackPost.STATE);
        x.row(0, 0);
        Due.is("a row", x.add(1, 2, 3, 4, 5), 5);
        x.pack(0);
        Due.is("the row of a draft that was", x.add(1, 2, 3, 4, 5), PackPost.STATE);
        x.draft(0, 0, 0);
        Due.is("a new draft has none", x.add(1, 2, 3, 4, 5), PackPost.STATE);
    }

    private static void addFull() {
        Due.sentence("6: FULL: above 120.");
        for (int n = 0; n <= 5; n++) {
            int[] a = {9, 9, 9, 9, 9};
            if (n < 5) {
                a[n] = -1;
            }
            PackPost x = withPage(120 - n);
            Due.is(n + " make 120", x.add(a[0], a[1], a[2], a[3], a[4]), 120);
            if (n > 0) {
                PackPost y = withPage(121 - n);
                Due.is(n + " make 121", y.add(a[0], a[1], a[2], a[3], a[4]), PackPost.FULL);
                Due.is("none of " + n + " came", addNothing(y), 121 - n);
            }
        }
    }

    // ---- again

    private static void againCopies() {
        Due.sentence("7: n bytes come behind that page, each as the one that is back ahead of it: how long it is.");
        PackPost x = drafting();
        x.row(0, 0);
        x.add(1, 2, 3, -1, -1);
        Due.is("none", x.again(3, 0), 3);
        Due.is("back 3", x.again(3, 2), 5);
        Due.is("back 1 goes on over itself", x.again(1, 3), 8);
        Due.is("back 8, all there are", x.again(8, 1), 9);
        Due.is("back 2 goes on over itself", x.again(2, 4), 13);
        writes("copies", x, 80, 75, 0, 0, 0, 0, 0, 1, 0, 0, 0, 13, 0, 13, 1, 2, 3, 1, 2, 2, 2, 2, 1, 2, 1, 2, 1);
    }

    private static void againNumbers() {
        Due.sentence("7: NUMBER: n isn't 0 .. 120, or back not 1 .. 120");
        PackPost x = withPage(120);
        for (int n : Crafts.beyond(0, 120)) {
            Due.is("n " + n, x.again(1, n), PackPost.NUMBER);
        }
        for (int back : Crafts.beyond(1, 120)) {
            Due.is("back " + back, x.again(back, 0), PackPost.NUMBER);
        }
        Due.is("back -1", x.again(-1, 0), PackPost.NUMBER);
        Due.is("n 0, back 1", x.again(1, 0), 120);
        Due.is("back 120", x.again(120, 0), 120);
        Due.is("n 120 is a number", x.again(1, 120), PackPost.FULL);
        Due.is("n 120 and back 120 are numbers", withPage(1).again(120, 120), PackPost.STATE);
    }

    private static void againWithoutRow() {
        Due.sentence("7: STATE: there is no ROW in a draft");
        PackPost x = new PackPost();
        Due.is("no draft", x.again(1, 0), PackPost.STATE);
        x.draft(0, 0, 0);
        Due.is("no row", x.again(1, 0), PackPost.STATE);
        x.row(0, 0);
        x.add(1, -1, -1, -1, -1);
        Due.is("a row", x.again(1, 0), 1);
        x.pack(0);
        Due.is("the row of a draft that was", x.again(1, 0), PackPost.STATE);
        x.draft(0, 0, 0);
        Due.is("a new draft has none", x.again(1, 0), PackPost.STATE);
    }

    private static void againFewerBytes() {
        Due.sentence("7: STATE: or its page has fewer than back bytes");
        for (int bytes : new int[] {0, 1, 2, 60, 119}) {
            Due.is("back is one above " + bytes, withPage(bytes).again(bytes + 1, 0), PackPost.STATE);
            if (bytes > 0) {
                Due.is("back is just " + bytes, withPage(bytes).again(bytes, 0), bytes);
            }
        }
        PackPost x = withPage(120);
        x.row(1, 0);
        x.add(1, 2, -1, -1, -1);
        Due.is("of the latest row", x.again(3, 1), PackPost.STATE);
    }

    private static void againFull() {
        Due.sentence("7: FULL: above 120.");
        for (int bytes : new int[] {1, 2, 60, 119, 120}) {
            PackPost x = withPage(bytes);
            Due.is("one above from " + bytes, x.again(1, 121 - bytes), PackPost.FULL);
            Due.is("none came from " + bytes, addNothing(x), bytes);
            Due.is("just 120 from " + bytes, x.again(1, 120 - bytes), 120);
        }
    }

    // ---- pack

    private static void packNumbered() {
        Due.sentence("8: The draft is written, and is none then: the pack's number.");
        PackPost x = new PackPost();
        for (int p = 0; p < 16; p++) {
            x.draft(p, p, p % 2);
            Due.is("number", x.pack(0), p);
        }
        for (int p = 0; p < 16; p++) {
            Crafts.sameBytes("pack " + p, x, p, Crafts.summed(80, 75, p, p, p % 2, 0, 0, 0));
        }
    }

    private static void packIsNoDraftThen() {
        Due.sentence("8: and is none then");
        PackPost x = withPage(3);
        x.pack(0);
        Due.is("need", x.need(1, 1, true), PackPost.STATE);
        Due.is("seal", x.seal(1), PackPost.STATE);
        Due.is("row", x.row(1, 1), PackPost.STATE);
        Due.is("add", x.add(1, 2, 3, 4, 5), PackPost.STATE);
        Due.is("again", x.again(1, 1), PackPost.STATE);
        Due.is("pack", x.pack(0), PackPost.STATE);
        x.draft(0, 0, 0);
        writes("a new one is empty", x, EMPTY);
    }

    private static void packSigned() {
        Due.sentence("8: If secret isn't 0 it is signed: the SIGN is the SUM of all ahead of it from secret.");
        for (int secret : new int[] {1, -1, 2, 16777619, Integer.MIN_VALUE, Integer.MAX_VALUE}) {
            for (int manner = 0; manner < 2; manner++) {
                PackPost x = new PackPost();
                x.draft(1, 2, manner);
                int[] due = Crafts.signed(secret, Crafts.summed(80, 75, 1, 2, manner + 2, 0, 0, 0));
                Crafts.sameBytes("by " + secret, x, x.pack(secret), due);
            }
        }
        PackPost x = new PackPost();
        x.draft(1, 2, 1);
        Crafts.sameBytes("by 0 it is not", x, x.pack(0), Crafts.summed(80, 75, 1, 2, 1, 0, 0, 0));
    }

    private static void packSumWraps() {
        Due.sentence("Term 1: turned 11 bits to the left (as 32 bits), times 16777619 (wrapping)");
        // The sums that all other tests compare with are held to numbers worked out by hand first.
        Due.is("81 turned is 165888", Crafts.sum(1, new int[] {80}, 1), (int) (165888L * 16777619L));
        Due.is("the highest bit comes back", Crafts.sum(0x80000000, new int[] {0}, 1), (int) (1024L * 16777619L));
        PackPost x = drafting();
        x.pack(0);
        Crafts.sameBytes("known bytes", x, 0, 80, 75, 0, 0, 0, 0, 0, 0, 149, 237, 238, 255);
    }

    private static void packWithoutDraft() {
        Due.sentence("8: STATE: no draft");
        PackPost x = new PackPost();
        Due.is("before any", x.pack(0), PackPost.STATE);
        x.draft(0, 0, 0);
        Due.is("a draft without anything", x.pack(0), 0);
        Due.is("behind pack", x.pack(0), PackPost.STATE);
        Due.is("no pack came", x.length(1), PackPost.NUMBER);
    }

    private static void packSixteen() {
        Due.sentence("8: FULL: there are 16");
        PackPost x = new PackPost();
        Crafts.smallPacks(x, 15);
        x.draft(0, 0, 0);
        Due.is("the sixteenth", x.pack(0), 15);
        x.draft(0, 0, 0);
        Due.is("one more", x.pack(0), PackPost.FULL);
        Due.is("one more, signed", x.pack(1), PackPost.FULL);
        Due.is("there is none such", x.length(16), PackPost.NUMBER);
        Due.is("the draft stays", x.row(0, 0), 1);
        Due.is("the last one stays", x.length(15), 12);
    }

    private static void packSevenHundred() {
        Due.sentence("8: FULL: or it would have more than 700 bytes.");
        // 8 + 36 bytes of head, 600 of pages, the SUM: the last page makes the rest, and a SIGN 4 more.
        for (int secret = 0; secret < 2; secret++) {
            int last = 52 - 4 * secret;
            PackPost x = new PackPost();
            Crafts.longDraft(x, 5, last + 1);
            Due.is("701", x.pack(secret), PackPost.FULL);
            Due.is("701 stays a draft", addNothing(x), last + 1);
            Crafts.longDraft(x, 5, last);
            Due.is("700", x.pack(secret), 0);
            Due.is("its length", x.length(0), 700);
            Due.is("its last byte", x.octet(0, 699) >= 0 ? 1 : 0, 1);
            Due.is("it is a pack", x.check(0), -1);
            Crafts.longDraft(x, 5, last - 1);
            Due.is("699", x.pack(secret), 1);
        }
        PackPost x = new PackPost();
        Crafts.longDraft(x, 7, 120);
        Due.is("the longest draft", x.pack(1), PackPost.FULL);
        PackPost y = new PackPost();
        fillWithPairs(y);
        Due.is("the longest draft by packing 1", y.pack(0), PackPost.FULL);
        Due.is("it stays", addNothing(y), 120);
    }

    private static void fillWithPairs(PackPost x) {
        x.draft(0, 0, 0);
        for (int r = 0; r < 8; r++) {
            x.row(r, 1);
            x.add(1, 2, -1, -1, -1);
            x.again(2, 118);
        }
    }

    // ---- writing

    private static void written(String what, int packing, int[] page, int... due) {
        PackPost x = drafting();
        x.row(0, packing);
        for (int b : page) {
            x.add(b, -1, -1, -1, -1);
        }
        writes(what, x, Crafts.join(new int[] {80, 75, 0, 0, 0, 0, 0, 1, 0, packing, 0, page.length, 0, due.length},
            due));
        Due.is(what + ": it is a pack", x.check(0), -1);
    }

    private static int[] page(int... bytes) {
        return bytes;
    }

    /** So many bytes, no two of them the same. */
    private static int[] counting(int n) {
        int[] bytes = new int[n];
        for (int i = 0; i < n; i++) {
            bytes[i] = i + 100;
        }
        return bytes;
    }

    private static void writingPairs() {
        Due.sentence("WRITING a page by PACKING 1: from its beginning on, each time as many like bytes as there are");
        written("empty", 1, page());
        written("one", 1, page(0), 1, 0);
        written("two like", 1, page(255, 255), 2, 255);
        written("two others", 1, page(255, 0), 1, 255, 1, 0);
        written("like ones that don't follow each other", 1, page(4, 5, 4), 1, 4, 1, 5, 1, 4);
        int[] like = new int[120];
        written("120 like", 1, like, 120, 0);
        like[0] = 1;
        written("the first differs", 1, like, 1, 1, 119, 0);
        int[] others = counting(120);
        int[] pairs = new int[240];
        for (int i = 0; i < 120; i++) {
            pairs[2 * i] = 1;
            pairs[2 * i + 1] = others[i];
        }
        written("120 others", 1, others, pairs);
    }

    private static void writingLeastCopy() {
        Due.sentence("WRITING by 2: if it has at least 3 bytes, it is an OP of n of 128 and more");
        written("empty", 2, page());
        written("a row of 2", 2, page(1, 2, 1, 2), 3, 1, 2, 1, 2);
        written("a row of 3", 2, page(1, 2, 3, 1, 2, 3), 2, 1, 2, 3, 128, 3);
        written("a row of 4", 2, page(1, 2, 3, 4, 1, 2, 3, 4), 3, 1, 2, 3, 4, 129, 4);
        written("three like bytes: a row of 2", 2, page(6, 6, 6), 2, 6, 6, 6);
        written("four like bytes: a row of 3", 2, page(6, 6, 6, 6), 0, 6, 128, 1);
        written("a row of 2 that the end cuts", 2, page(1, 2, 3, 1, 2), 4, 1, 2, 3, 1, 2);
    }

    private static void writingLongestAndNearest() {
        Due.sentence("By 2: at each place the longest row of bytes, of several the nearest");
        written("a longer one that is farther", 2, page(1, 2, 3, 4, 0, 1, 2, 3, 9, 1, 2, 3, 4),
            4, 1, 2, 3, 4, 0, 128, 5, 0, 9, 129, 9);
        written("a longer one that is nearer", 2, page(1, 2, 3, 0, 1, 2, 3, 4, 9, 1, 2, 3, 4),
            3, 1, 2, 3, 0, 128, 4, 1, 4, 9, 129, 5);
        written("two of the same length", 2, page(1, 2, 3, 0, 1, 2, 3, 9, 1, 2, 3, 8),
            3, 1, 2, 3, 0, 128, 4, 0, 9, 128, 4, 0, 8);
        written("over the place itself, nearest", 2, page(7, 7, 7, 7, 7, 7), 0, 7, 130, 1);
        written("over the place itself, by twos", 2, page(7, 8, 7, 8, 7, 8, 7), 1, 7, 8, 130, 2);
        written("not what will be longer one place on", 2, page(1, 2, 3, 2, 3, 4, 5, 6, 0, 1, 2, 3, 4, 5, 6),
            8, 1, 2, 3, 2, 3, 4, 5, 6, 0, 128, 9, 128, 7);
    }

    private static void writingPlainRuns() {
        Due.sentence("By 2: such bytes that follow each other, 128 at most, are one OP.");
        int[] others = counting(120);
        written("120 others", 2, others, Crafts.join(new int[] {119}, others));
        written("one behind a copy", 2, page(6, 6, 6, 6, 5), 0, 6, 128, 1, 0, 5);
        written("two behind a copy", 2, page(6, 6, 6, 6, 5, 4), 0, 6, 128, 1, 1, 5, 4);
        written("between copies", 2, page(6, 6, 6, 6, 5, 6, 6, 6, 4), 0, 6, 128, 1, 0, 5, 128, 4, 0, 4);
    }

    private static void writingToTheEnd() {
        Due.sentence("By 2: 130 at most, that stands in the page from a byte up to 255 ahead of the place");
        int[] like = new int[120];
        written("119 like ones", 2, like, 0, 0, 244, 1);
        int[] far = counting(120);
        System.arraycopy(far, 0, far, 117, 3);
        int[] due = Crafts.join(Crafts.join(new int[] {116}, Arrays.copyOf(far, 117)), 128, 117);
        written("from 117 ahead", 2, far, due);
        int[] half = counting(120);
        System.arraycopy(half, 0, half, 60, 60);
        written("sixty again", 2, half, Crafts.join(Crafts.join(new int[] {59}, Arrays.copyOf(half, 60)), 185, 60));
    }
}
