import java.util.function.Consumer;
import java.util.function.ToIntFunction;

/**
 * The two sentences that hold for every call: "A call that is refused (answers below 0) changes nothing but what
 * why() tells. Of several refusals that a call names the first one named is answered."
 */
public final class RefusalsTest {
    private static final String NOTHING = "A call that is refused (answers below 0) changes nothing but what why()";
    private static final String FIRST = "Of several refusals that a call names the first one named is answered.";

    public static void main(String[] args) {
        refusedDrafts();
        refusedWithoutDraft();
        refusedFullDraft();
        refusedPack();
        refusedPacks();
        refusedParts();
        refusedTakes();
        refusedLastTakes();
        refusedOpens();
        refusedOpensOfSeals();
        refusedShelf();
        answersWithoutChange();
        takeBehindRefusals();
        firstOfDraftCalls();
        firstOfAgain();
        firstOfPack();
        firstOfTake();
        firstOfOpen();
        firstOfOpenOnAFullShelf();
        firstOfShelfCalls();
        Due.end("RefusalsTest");
    }

    /** Packs, a tape, a book, entries, something for why() to tell, and a draft that goes on. */
    private static void rich(PackPost x) {
        x.draft(0, 1, 0);
        x.row(1, 1);
        x.add(5, 5, 6, -1, -1);
        x.open(x.pack(0), 0);
        x.draft(1, 2, 1);
        x.need(0, 9, false);
        x.seal(2);
        x.row(17, 2);
        x.add(1, 2, 3, -1, -1);
        x.again(3, 9);
        x.open(x.pack(7), 7);
        x.draft(2, 0, 0);
        x.need(0, 1, true);
        x.need(1, 2, false);
        x.row(40, 0);
        x.row(100, 0);
        x.pack(0);
        x.open(2, 0);
        Crafts.put(x, 2, 0, 0, Crafts.needs(0, 1), 100, 200);
        x.draft(3, 3, 0);
        x.pack(0);
        x.trim(4, 9);
        x.open(4, 0);
        x.close(0);
        x.overlay(2, 1);
        x.load(1, 10, 1);
        x.take();
        x.load(1, 10, 2);
        draftOn(x);
    }

    private static void draftOn(PackPost x) {
        x.draft(6, 7, 1);
        x.need(5, 5, true);
        x.seal(9);
        x.row(33, 0);
        x.add(1, 2, 3, 4, 5);
        x.row(34, 2);
        x.add(8, 8, -1, -1, -1);
    }

    private static void same(String what, Consumer<PackPost> made, ToIntFunction<PackPost> call, int answer) {
        Twins.unchanged(what, made, call, answer);
    }

    private static void refusedDrafts() {
        Due.sentence(NOTHING);
        Consumer<PackPost> made = RefusalsTest::rich;
        same("draft name", made, x -> x.draft(64, 0, 0), PackPost.NUMBER);
        same("draft edition", made, x -> x.draft(0, 100, 0), PackPost.NUMBER);
        same("draft manner", made, x -> x.draft(0, 0, 2), PackPost.NUMBER);
        same("need name", made, x -> x.need(64, 0, true), PackPost.NUMBER);
        same("need edition", made, x -> x.need(0, 100, true), PackPost.NUMBER);
        same("need twice", made, x -> x.need(5, 6, false), PackPost.TWICE);
        same("seal group", made, x -> x.seal(16), PackPost.NUMBER);
        same("seal twice", made, x -> x.seal(9), PackPost.TWICE);
        same("row key", made, x -> x.row(256, 0), PackPost.NUMBER);
        same("row packing", made, x -> x.row(0, 3), PackPost.NUMBER);
        same("row twice", made, x -> x.row(33, 1), PackPost.TWICE);
        same("add a last byte", made, x -> x.add(1, 2, 3, 4, 256), PackPost.NUMBER);
        same("again n", made, x -> x.again(1, 121), PackPost.NUMBER);
        same("again back", made, x -> x.again(0, 1), PackPost.NUMBER);
        same("again fewer", made, x -> x.again(3, 1), PackPost.STATE);
        same("again full", made, x -> x.again(2, 119), PackPost.FULL);
    }

    private static void refusedWithoutDraft() {
        Due.sentence(NOTHING);
        Consumer<PackPost> made = x -> {
            rich(x);
            x.pack(0);
        };
        same("need", made, x -> x.need(1, 1, true), PackPost.STATE);
        same("seal", made, x -> x.seal(1), PackPost.STATE);
        same("row", made, x -> x.row(1, 1), PackPost.STATE);
        same("add", made, x -> x.add(1, 2, 3, 4, 5), PackPost.STATE);
        same("again", made, x -> x.again(1, 1), PackPost.STATE);
        same("pack", made, x -> x.pack(1), PackPost.STATE);
        Consumer<PackPost> withoutRow = x -> {
            rich(x);
            x.draft(1, 1, 1);
        };
        same("add without a row", withoutRow, x -> x.add(1, 2, 3, 4, 5), PackPost.STATE);
        same("again without a row", withoutRow, x -> x.again(1, 1), PackPost.STATE);
    }

    private static void refusedFullDraft() {
        Due.sentence(NOTHING);
        Consumer<PackPost> made = x -> {
            x.draft(1, 1, 1);
            for (int i = 0; i < 4; i++) {
                x.need(i, i, false);
                x.seal(i);
            }
            for (int r = 0; r < 8; r++) {
                x.row(r, r % 3);
                x.add(r, -1, -1, -1, -1);
            }
            x.again(1, 115);
        };
        same("need", made, x -> x.need(4, 1, true), PackPost.FULL);
        same("seal", made, x -> x.seal(4), PackPost.FULL);
        same("row", made, x -> x.row(8, 1), PackPost.FULL);
        same("add", made, x -> x.add(1, 2, 3, 4, 5), PackPost.FULL);
        same("again", made, x -> x.again(1, 5), PackPost.FULL);
    }

    private static void refusedPack() {
        Due.sentence(NOTHING);
        same("16 packs", x -> {
            rich(x);
            Crafts.smallPacks(x, 11);
            draftOn(x);
        }, x -> x.pack(3), PackPost.FULL);
        same("701 bytes", x -> {
            Crafts.packOf(x, 20);
            Crafts.longDraft(x, 5, 53);
        }, x -> x.pack(0), PackPost.FULL);
        // Without a SIGN it has 700 bytes, which the twins write then.
        same("704 bytes", x -> {
            Crafts.packOf(x, 20);
            Crafts.longDraft(x, 5, 52);
        }, x -> x.pack(3), PackPost.FULL);
    }

    private static void refusedPacks() {
        Due.sentence(NOTHING);
        Consumer<PackPost> made = RefusalsTest::rich;
        same("length", made, x -> x.length(5), PackPost.NUMBER);
        same("octet of none", made, x -> x.octet(5, 0), -1);
        same("octet behind", made, x -> x.octet(4, 9), -1);
        same("spoil of none", made, x -> x.spoil(5, 0, 1), PackPost.NUMBER);
        same("spoil behind", made, x -> x.spoil(4, 9, 1), PackPost.NUMBER);
        same("spoil ahead", made, x -> x.spoil(4, -1, 1), PackPost.NUMBER);
        same("spoil by 0", made, x -> x.spoil(0, 0, 0), PackPost.NUMBER);
        same("spoil by 256", made, x -> x.spoil(0, 0, 256), PackPost.NUMBER);
        same("spoil by 257", made, x -> x.spoil(0, 0, 257), PackPost.NUMBER);
        same("trim of none", made, x -> x.trim(5, 1), PackPost.NUMBER);
        same("trim to 0", made, x -> x.trim(0, 0), PackPost.NUMBER);
        same("trim to more", made, x -> x.trim(4, 10), PackPost.NUMBER);
        same("check", made, x -> x.check(5), -2);
        same("signer", made, x -> x.signer(5, 7), PackPost.NUMBER);
    }

    private static void refusedParts() {
        Due.sentence(NOTHING);
        Consumer<PackPost> made = RefusalsTest::rich;
        same("parts of none", made, x -> x.parts(5, 8), PackPost.NUMBER);
        same("parts by 7", made, x -> x.parts(0, 7), PackPost.NUMBER);
        same("parts by 101", made, x -> x.parts(0, 101), PackPost.NUMBER);
        same("load of none", made, x -> x.load(5, 8, 0), PackPost.NUMBER);
        same("load by 7", made, x -> x.load(0, 7, 0), PackPost.NUMBER);
        same("load by 101", made, x -> x.load(0, 101, 0), PackPost.NUMBER);
        same("load ahead", made, x -> x.load(0, 8, -1), PackPost.NUMBER);
        same("load behind", made, x -> x.load(0, 100, 1), PackPost.NUMBER);
        same("tape behind", made, x -> x.tape(18), -1);
        same("bend behind", made, x -> x.bend(18, 1), PackPost.NUMBER);
        same("bend ahead", made, x -> x.bend(-1, 1), PackPost.NUMBER);
        same("bend by 0", made, x -> x.bend(0, 0), PackPost.NUMBER);
        same("bend by 256", made, x -> x.bend(0, 256), PackPost.NUMBER);
        same("book 16", made, x -> x.book(16, 0), PackPost.NUMBER);
        same("book what", made, x -> x.book(1, -1), PackPost.NUMBER);
        same("drop 16", made, x -> x.drop(16), PackPost.NUMBER);
        same("drop -1", made, x -> x.drop(-1), PackPost.NUMBER);
        same("bend of an empty tape", x -> Crafts.packOf(x, 20), x -> x.bend(0, 1), PackPost.NUMBER);
    }

    private static Consumer<PackPost> richWithTape(int p, int size, int i) {
        return x -> {
            rich(x);
            x.load(p, size, i);
        };
    }

    private static void refusedTakes() {
        Due.sentence(NOTHING);
        same("empty tape", x -> Crafts.packOf(x, 20), PackPost::take, PackPost.STATE);
        same("mixed", richWithTape(1, 11, 0), PackPost::take, PackPost.MIXED);
        same("twice", richWithTape(1, 10, 1), PackPost::take, PackPost.TWICE);
        for (int k : new int[] {0, 1, 2, 3, 4, 17}) {
            same("spoiled " + k, x -> {
                rich(x);
                x.bend(k, 64);
            }, PackPost::take, PackPost.SPOILED);
        }
    }

    private static void refusedLastTakes() {
        Due.sentence(NOTHING);
        same("16 packs, the last of three", x -> {
            Crafts.packOf(x, 30);
            Crafts.smallPacks(x, 15);
            x.load(0, 10, 2);
            x.take();
            x.load(0, 10, 0);
            x.take();
            x.load(0, 10, 1);
        }, PackPost::take, PackPost.FULL);
        same("16 packs, the only one", x -> {
            Crafts.packOf(x, 30);
            Crafts.smallPacks(x, 15);
            x.load(0, 30, 0);
        }, PackPost::take, PackPost.FULL);
        refusedBytes();
    }

    /** Eight parts by 90 and by 80 of 638 bytes: seven of the first, and the last of the second make 708. */
    private static void refusedBytes() {
        Consumer<PackPost> made = x -> {
            Crafts.packOf(x, 638);
            for (int i = 0; i < 7; i++) {
                x.load(0, 90, i);
                x.take();
            }
            x.load(0, 80, 7);
        };
        same("708 bytes", made, PackPost::take, PackPost.FULL);
        PackPost x = new PackPost();
        made.accept(x);
        x.take();
        x.load(0, 90, 7);
        Due.is("the right one joins all the same", x.take(), 101);
        for (int i = 0; i < 638; i += 3) {
            Due.is("byte " + i, x.octet(1, i), x.octet(0, i));
        }
    }

    private static void refusedOpens() {
        Due.sentence(NOTHING);
        Consumer<PackPost> made = RefusalsTest::rich;
        same("none such", made, x -> x.open(5, 0), PackPost.NUMBER);
        same("none such -1", made, x -> x.open(-1, 0), PackPost.NUMBER);
        same("another sign", made, x -> x.open(1, 8), PackPost.SIGN);
        same("no sign", made, x -> x.open(0, 8), PackPost.SIGN);
        Twins.toldOnly("broken", made, x -> x.open(4, 0), PackPost.BROKEN, 9);
        Twins.toldOnly("a need", made, x -> x.open(1, 0), PackPost.NEED, 0);
        Consumer<PackPost> full = x -> {
            rich(x);
            x.reopen(0);
            for (int e = 4; e < 13; e++) {
                x.open(0, 0);
            }
        };
        same("twelve entries", full, x -> x.open(0, 0), PackPost.FULL);
        same("twelve entries, broken", full, x -> x.open(4, 0), PackPost.FULL);
    }

    private static void refusedOpensOfSeals() {
        Due.sentence(NOTHING);
        Consumer<PackPost> made = x -> {
            rich(x);
            x.draft(7, 0, 0);
            x.need(1, 2, true);
            x.row(47, 0);
            x.row(250, 0);
            x.pack(0);
        };
        Twins.toldOnly("a seal", made, x -> x.open(5, 0), PackPost.SEALED, 2);
        Consumer<PackPost> own = x -> {
            rich(x);
            x.draft(7, 0, 0);
            x.need(1, 2, true);
            x.seal(12);
            x.seal(1);
            x.pack(0);
        };
        Twins.toldOnly("its own seal", own, x -> x.open(5, 0), PackPost.SEALED, 1);
    }

    private static void refusedShelf() {
        Due.sentence(NOTHING);
        Consumer<PackPost> made = RefusalsTest::rich;
        same("entry of none", made, x -> x.entry(9, 0), -2);
        same("entry what", made, x -> x.entry(0, -1), -2);
        same("entry of no need", made, x -> x.entry(0, 8), -1);
        same("close of none", made, x -> x.close(9), PackPost.NUMBER);
        same("close of a closed one", made, x -> x.close(0), PackPost.STATE);
        same("reopen of none", made, x -> x.reopen(9), PackPost.NUMBER);
        same("reopen of an open one", made, x -> x.reopen(1), PackPost.STATE);
        same("overlay on none", made, x -> x.overlay(9, 0), PackPost.NUMBER);
        same("overlay of none", made, x -> x.overlay(0, 9), PackPost.NUMBER);
        same("overlay of itself", made, x -> x.overlay(1, 1), PackPost.TWICE);
        same("overlay twice", made, x -> x.overlay(2, 1), PackPost.TWICE);
        same("find of none", made, x -> x.find(9, 0), -2);
        same("find no key", made, x -> x.find(1, 256), -2);
        same("find in none", made, x -> x.find(1, 99), -1);
        same("path of none", made, x -> x.path(9, 0, 0), -1);
        same("path behind", made, x -> x.path(1, 17, 3), -1);
        same("page of none", made, x -> x.page(9, 0), -2);
        same("page no key", made, x -> x.page(1, -1), -2);
        same("page in none", made, x -> x.page(1, 99), -1);
        same("read of none", made, x -> x.read(9, 17, 0), -1);
        same("read behind", made, x -> x.read(1, 17, 12), -1);
        same("edition of none", made, x -> x.edition(9, 0), -1);
        same("needed of none", made, x -> x.needed(9, 0), -1);
        Consumer<PackPost> overlaid = x -> {
            rich(x);
            for (int e = 3; e < 6; e++) {
                Crafts.put(x, e, 0, 0, Crafts.needs(), 17, 200);
            }
            x.overlay(1, 0);
            x.overlay(1, 2);
            x.overlay(1, 3);
            x.overlay(1, 4);
        };
        same("overlay full", overlaid, x -> x.overlay(1, 5), PackPost.FULL);
        same("overlay the third again", overlaid, x -> x.overlay(1, 3), PackPost.TWICE);
        same("overlay the last again", overlaid, x -> x.overlay(1, 4), PackPost.TWICE);
    }

    private static void answersWithoutChange() {
        Due.sentence("what only asks changes nothing: length, octet, check, signer, parts, tape, book, findings");
        Consumer<PackPost> made = RefusalsTest::rich;
        same("length", made, x -> x.length(4), 9);
        same("octet", made, x -> x.octet(0, 0), 80);
        same("check of a pack", made, x -> x.check(1), -1);
        same("check of none", made, x -> x.check(4), 9);
        same("signer", made, x -> x.signer(1, 7), 1);
        same("parts", made, x -> x.parts(4, 8), 2);
        same("tape", made, x -> x.tape(0), 112);
        same("book", made, x -> x.book(1, 0), 4);
        same("why", made, PackPost::why, 9);
        same("entry", made, x -> x.entry(1, 8), 0);
        same("find", made, x -> x.find(1, 17), 1);
        same("path", made, x -> x.path(1, 17, 0), 1);
        same("page", made, x -> x.page(2, 17), 1);
        same("read", made, x -> x.read(2, 17, 0), 1);
        same("edition", made, x -> x.edition(1, 0), 1);
        same("needed", made, x -> x.needed(1, 0), 2);
    }

    private static void takeBehindRefusals() {
        Due.sentence(NOTHING);
        PackPost x = new PackPost();
        Crafts.packOf(x, 30);
        x.load(0, 10, 1);
        x.take();
        x.bend(6, 255);
        Due.is("spoiled", x.take(), PackPost.SPOILED);
        Crafts.resumTape(x);
        Due.is("twice, with other bytes", x.take(), PackPost.TWICE);
        x.load(0, 15, 0);
        Due.is("mixed", x.take(), PackPost.MIXED);
        x.load(0, 10, 0);
        x.take();
        x.load(0, 10, 2);
        Due.is("joined", x.take(), 101);
        int[] due = java.util.Arrays.copyOf(Crafts.bytesOfPack(), 30);
        Crafts.sameBytes("the bytes that were taken", x, 1, due);
    }

    // ---- which of several refusals is answered

    private static void firstOfDraftCalls() {
        Due.sentence(FIRST);
        PackPost x = new PackPost();
        Due.is("need: NUMBER of name, STATE", x.need(64, 0, true), PackPost.NUMBER);
        Due.is("need: NUMBER of edition, STATE", x.need(0, 100, true), PackPost.NUMBER);
        Due.is("seal: NUMBER, STATE", x.seal(16), PackPost.NUMBER);
        Due.is("row: NUMBER of key, STATE", x.row(256, 0), PackPost.NUMBER);
        Due.is("row: NUMBER of packing, STATE", x.row(0, 3), PackPost.NUMBER);
        Due.is("add: NUMBER, STATE of no draft", x.add(256, 0, 0, 0, 0), PackPost.NUMBER);
        x.draft(0, 0, 0);
        Due.is("add: NUMBER, STATE of no row", x.add(1, 2, 3, 4, -2), PackPost.NUMBER);
        for (int i = 0; i < 4; i++) {
            x.need(i, 0, true);
            x.seal(i);
            Due.is("need: NUMBER of edition, TWICE", x.need(i, 100, true), PackPost.NUMBER);
        }
        Due.is("need: NUMBER, FULL", x.need(64, 0, true), PackPost.NUMBER);
        Due.is("seal: NUMBER, FULL", x.seal(16), PackPost.NUMBER);
        for (int i = 0; i < 4; i++) {
            Due.is("need: TWICE, FULL", x.need(i, 1, false), PackPost.TWICE);
            Due.is("seal: TWICE, FULL", x.seal(i), PackPost.TWICE);
        }
        for (int r = 0; r < 8; r++) {
            x.row(r, 0);
            Due.is("row: NUMBER of packing, TWICE", x.row(r, 3), PackPost.NUMBER);
        }
        Due.is("row: NUMBER, FULL", x.row(256, 0), PackPost.NUMBER);
        for (int r = 0; r < 8; r++) {
            Due.is("row: TWICE, FULL", x.row(r, 0), PackPost.TWICE);
        }
        x.add(1, -1, -1, -1, -1);
        x.again(1, 119);
        Due.is("add: NUMBER, FULL", x.add(1, 256, -1, -1, -1), PackPost.NUMBER);
        x.pack(0);
        Due.is("need: STATE, that was TWICE", x.need(0, 0, true), PackPost.STATE);
        Due.is("seal: STATE, that was TWICE", x.seal(0), PackPost.STATE);
        Due.is("row: STATE, that was TWICE", x.row(0, 0), PackPost.STATE);
        Due.is("row: STATE, that was FULL", x.row(9, 0), PackPost.STATE);
        Due.is("add: STATE, that was FULL", x.add(1, 2, 3, 4, 5), PackPost.STATE);
    }

    private static void firstOfAgain() {
        Due.sentence(FIRST);
        PackPost x = new PackPost();
        Due.is("NUMBER of n, STATE of no draft", x.again(1, 121), PackPost.NUMBER);
        Due.is("NUMBER of back, STATE of no draft", x.again(0, 1), PackPost.NUMBER);
        x.draft(0, 0, 0);
        Due.is("NUMBER, STATE of no row", x.again(121, 1), PackPost.NUMBER);
        x.row(0, 0);
        Due.is("NUMBER of n, STATE of fewer bytes", x.again(1, -1), PackPost.NUMBER);
        x.add(1, 2, 3, -1, -1);
        Due.is("STATE of fewer bytes, FULL", x.again(4, 118), PackPost.STATE);
        Due.is("NUMBER of n, FULL", x.again(1, 121), PackPost.NUMBER);
        Due.is("NUMBER of back, FULL", x.again(0, 118), PackPost.NUMBER);
        Due.is("FULL alone", x.again(3, 118), PackPost.FULL);
    }

    private static void firstOfPack() {
        Due.sentence(FIRST);
        PackPost x = new PackPost();
        Crafts.smallPacks(x, 16);
        Due.is("STATE, FULL", x.pack(0), PackPost.STATE);
        x.draft(0, 0, 0);
        Due.is("FULL alone", x.pack(0), PackPost.FULL);
        Crafts.longDraft(x, 7, 120);
        Due.is("FULL of both", x.pack(0), PackPost.FULL);
    }

    private static void firstOfTake() {
        Due.sentence(FIRST);
        PackPost x = new PackPost();
        Crafts.packOf(x, 20);
        Crafts.smallPacks(x, 15);
        Due.is("STATE, though there are 16 packs", x.take(), PackPost.STATE);
        x.load(0, 10, 0);
        x.take();
        x.bend(5, 1);
        Due.is("SPOILED, TWICE", x.take(), PackPost.SPOILED);
        x.bend(5, 1);
        Due.is("TWICE, with 16 packs", x.take(), PackPost.TWICE);
        x.load(0, 10, 1);
        x.bend(5, 1);
        Due.is("SPOILED, FULL", x.take(), PackPost.SPOILED);
        x.bend(5, 1);
        Due.is("FULL alone", x.take(), PackPost.FULL);
        x.load(0, 8, 0);
        Due.is("MIXED, TWICE", x.take(), PackPost.MIXED);
        x.bend(5, 1);
        Due.is("SPOILED, MIXED, TWICE", x.take(), PackPost.SPOILED);
        x.load(0, 20, 0);
        Due.is("MIXED, TWICE, FULL", x.take(), PackPost.MIXED);
        x.load(0, 8, 1);
        Due.is("MIXED alone", x.take(), PackPost.MIXED);
        x.bend(1, 16);
        Crafts.resumTape(x);
        Due.is("SPOILED by its number of a pack", x.take(), PackPost.SPOILED);
    }

    /** Needs entry 0, which seals group 1, and name 9; has a row of group 1; signed by 4. */
    private static void packForAll(PackPost x) {
        x.draft(1, 0, 0);
        x.need(0, 0, true);
        x.need(9, 0, false);
        x.row(16, 0);
        x.pack(4);
    }

    private static void firstOfOpen() {
        Due.sentence(FIRST);
        PackPost x = new PackPost();
        x.draft(0, 0, 0);
        x.seal(1);
        x.open(x.pack(0), 0);
        packForAll(x);
        Due.is("SIGN, NEED, SEALED", x.open(1, 5), PackPost.SIGN);
        Due.is("SIGN tells nothing", x.why(), 0);
        Due.is("NEED, SEALED", x.open(1, 4), PackPost.NEED);
        Due.is("the need", x.why(), 1);
        Due.is("NEED, SEALED without a secret", x.open(1, 0), PackPost.NEED);
        x.spoil(1, 21, 128);
        Due.is("BROKEN, SIGN, NEED", x.open(1, 5), PackPost.BROKEN);
        Due.is("BROKEN, NEED", x.open(1, 0), PackPost.BROKEN);
        x.spoil(1, 21, 128);
        Crafts.put(x, 9, 0, 0, Crafts.needs());
        Due.is("SIGN, SEALED", x.open(1, 5), PackPost.SIGN);
        Due.is("SEALED alone", x.open(1, 4), PackPost.SEALED);
        Due.is("the group", x.why(), 1);
        x.trim(1, 10);
        Due.is("BROKEN, SEALED", x.open(1, 4), PackPost.BROKEN);
        Due.is("the place", x.why(), 10);
    }

    private static void firstOfOpenOnAFullShelf() {
        Due.sentence(FIRST);
        PackPost x = new PackPost();
        x.draft(0, 0, 0);
        x.seal(1);
        x.pack(0);
        for (int e = 0; e < 12; e++) {
            x.open(0, 0);
        }
        packForAll(x);
        Due.is("NUMBER, FULL", x.open(2, 0), PackPost.NUMBER);
        Due.is("NUMBER -1, FULL", x.open(-1, 0), PackPost.NUMBER);
        Due.is("FULL, SIGN, NEED, SEALED", x.open(1, 5), PackPost.FULL);
        Due.is("FULL, NEED, SEALED", x.open(1, 4), PackPost.FULL);
        x.trim(1, 10);
        Due.is("FULL, BROKEN", x.open(1, 4), PackPost.FULL);
        Due.is("nothing is told", x.why(), 0);
    }

    private static void firstOfShelfCalls() {
        Due.sentence(FIRST);
        PackPost x = new PackPost();
        for (int e = 0; e < 6; e++) {
            Crafts.put(x, e, 0, 0, Crafts.needs());
        }
        for (int o = 1; o < 5; o++) {
            x.overlay(0, o);
        }
        Due.is("overlay: NUMBER of both, TWICE", x.overlay(6, 6), PackPost.NUMBER);
        Due.is("overlay: NUMBER of both, -1", x.overlay(-1, -1), PackPost.NUMBER);
        Due.is("overlay: NUMBER of o, FULL", x.overlay(0, 6), PackPost.NUMBER);
        for (int o = 0; o < 5; o++) {
            Due.is("overlay: TWICE, FULL", x.overlay(0, o), PackPost.TWICE);
        }
        Due.is("overlay: FULL alone", x.overlay(0, 5), PackPost.FULL);
        Due.is("entry: both numbers", x.entry(6, -1), -2);
        Due.is("find: both numbers", x.find(6, 256), -2);
        Due.is("page: both numbers", x.page(6, 256), -2);
        Due.is("book: both numbers", x.book(16, -1), PackPost.NUMBER);
        Due.is("spoil: all numbers", x.spoil(16, 0, 0), PackPost.NUMBER);
    }
}
