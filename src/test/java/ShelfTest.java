/** Promises 22 to 33: the shelf. */
public final class ShelfTest {
    public static void main(String[] args) {
        openRefusals();
        openOrderOfRefusals();
        openKeepsWhatWas();
        meetingNeeds();
        sealedGroups();
        sealedFarOff();
        why();
        entry();
        closeAndReopen();
        overlay();
        findByManner();
        findAskedOnce();
        findClosed();
        path();
        page();
        read();
        edition();
        needed();
        Due.end("ShelfTest");
    }

    private static void openRefusals() {
        PackPost x = new PackPost();
        Due.is("22: no pack", x.open(0, 0), PackPost.NUMBER);
        x.draft(1, 2, 0);
        x.pack(0);
        Due.is("22: no pack -1", x.open(-1, 0), PackPost.NUMBER);
        Due.is("22: no pack 1", x.open(1, 0), PackPost.NUMBER);
        Due.is("22: it isn't signed", x.open(0, 7), PackPost.SIGN);
        Due.is("22: no secret", x.open(0, 0), 0);
        Due.is("22: the same pack again", x.open(0, 0), 1);
        x.spoil(0, 2, 64);
        Due.is("22: no pack any more", x.open(0, 0), PackPost.BROKEN);
        x.draft(1, 2, 0);
        x.pack(-5);
        Due.is("22: another secret", x.open(1, 5), PackPost.SIGN);
        Due.is("22: signed, and no secret", x.open(1, 0), 2);
        Due.is("22: its secret", x.open(1, -5), 3);
        x.spoil(1, 15, 1);
        Due.is("22: another sign", x.open(1, -5), PackPost.SIGN);
        Due.is("22: any sign without a secret", x.open(1, 0), 4);
        x.draft(2, 0, 0);
        x.need(1, 1, false);
        x.pack(0);
        Due.is("22: a need isn't met", x.open(2, 0), PackPost.NEED);
        Due.is("22: no entry by refusals", x.entry(5, 0), -2);
        x.spoil(1, 15, 1);
        for (int e = 5; e < 12; e++) {
            Due.is("22: more", x.open(1, -5), e);
        }
        Due.is("22: there are 12", x.open(1, -5), PackPost.FULL);
        Due.is("22: NUMBER ahead of FULL", x.open(3, 0), PackPost.NUMBER);
        Due.is("22: FULL ahead of BROKEN", x.open(0, 0), PackPost.FULL);
    }

    private static void openOrderOfRefusals() {
        PackPost x = new PackPost();
        x.draft(0, 0, 0);
        x.seal(1);
        x.pack(0);
        x.open(0, 0);
        x.draft(1, 0, 0);
        x.need(0, 0, true);
        x.need(9, 0, false);
        x.row(16, 0);
        x.pack(4);
        Due.is("22: SIGN ahead of NEED", x.open(1, 5), PackPost.SIGN);
        Due.is("23: SIGN tells nothing", x.why(), 0);
        Due.is("22: NEED ahead of SEALED", x.open(1, 4), PackPost.NEED);
        Due.is("23: the need", x.why(), 1);
        Crafts.put(x, 9, 0, 0, Crafts.needs());
        Due.is("22: SEALED", x.open(1, 4), PackPost.SEALED);
        x.spoil(1, 7, 1);
        Due.is("22: BROKEN ahead of SIGN", x.open(1, 5), PackPost.BROKEN);
    }

    private static void openKeepsWhatWas() {
        PackPost x = new PackPost();
        x.draft(7, 8, 1);
        x.row(3, 1);
        x.add(4, 4, 5, -1, -1);
        x.pack(0);
        x.open(0, 0);
        x.trim(0, 1);
        Due.is("22: keeps its name", x.entry(0, 0), 7);
        Due.is("22: keeps its page", x.read(0, 3, 2), 5);
        x.draft(1, 1, 0);
        x.row(3, 0);
        x.add(9, -1, -1, -1, -1);
        x.pack(0);
        x.check(1);
        x.open(1, 0);
        Due.is("22: keeps it behind others", x.read(0, 3, 1), 4);
        Due.is("22: the other has its own", x.read(1, 3, 0), 9);
        int[] head = {80, 75, 5, 5, 0, 0, 0, 2, 1, 1, 0, 4, 0, 6, 2, 2, 0, 9, 0, 9};
        int[] body = {1, 8, 2, 8, 1, 7, 1, 1, 2, 128, 1, 0, 5, 128, 4};
        int p = Crafts.craft(x, Crafts.summed(Crafts.join(head, body)));
        Due.is("22: as no draft writes it", x.open(p, 0), 2);
        int[] pairs = {8, 8, 8, 7, -1};
        int[] ops = {1, 2, 2, 2, 2, 5, 2, 2, 2, -1};
        for (int i = 0; i < pairs.length; i++) {
            Due.is("22: pairs " + i, x.read(2, 1, i), pairs[i]);
        }
        for (int i = 0; i < ops.length; i++) {
            Due.is("22: ops " + i, x.read(2, 2, i), ops[i]);
        }
    }

    private static int openNeeding(PackPost x, int name, int edition, boolean exact) {
        x.draft(60, 0, 0);
        x.need(name, edition, exact);
        return x.open(x.pack(0), 0);
    }

    private static void meetingNeeds() {
        PackPost x = new PackPost();
        Crafts.put(x, 5, 10, 0, Crafts.needs());
        Crafts.put(x, 5, 20, 0, Crafts.needs());
        Crafts.put(x, 5, 20, 0, Crafts.needs());
        Crafts.put(x, 5, 15, 0, Crafts.needs());
        Crafts.put(x, 6, 12, 0, Crafts.needs());
        int e = openNeeding(x, 5, 99, false);
        Due.is("4: highest edition, the latest entry", x.entry(e, 8), 2);
        e = openNeeding(x, 5, 19, false);
        Due.is("4: a lower one", x.entry(e, 8), 3);
        e = openNeeding(x, 5, 10, false);
        Due.is("4: that or a lower one", x.entry(e, 8), 0);
        e = openNeeding(x, 5, 10, true);
        Due.is("4: just that", x.entry(e, 8), 0);
        Due.is("22: no lower one", openNeeding(x, 5, 9, false), PackPost.NEED);
        Due.is("22: not just that", openNeeding(x, 5, 11, true), PackPost.NEED);
        Due.is("22: another name", openNeeding(x, 4, 99, false), PackPost.NEED);
        x.close(2);
        e = openNeeding(x, 5, 20, true);
        Due.is("4: not a CLOSED one", x.entry(e, 8), 1);
        PackPost y = new PackPost();
        Crafts.put(y, 5, 10, 0, Crafts.needs());
        y.close(0);
        Due.is("22: none but a CLOSED one", openNeeding(y, 5, 10, false), PackPost.NEED);
        y.reopen(0);
        Due.is("22: reopened", openNeeding(y, 5, 10, false), 1);
        y.draft(5, 11, 0);
        y.need(5, 99, false);
        Due.is("22: its own name", y.open(y.pack(0), 0), 2);
        Due.is("4: not itself", y.entry(2, 8), 0);
    }

    private static void sealedGroups() {
        PackPost x = new PackPost();
        x.draft(0, 0, 0);
        x.seal(1);
        x.seal(15);
        x.row(31, 0);
        x.row(64, 0);
        Due.is("22: what it seals it may have itself", x.open(x.pack(0), 0), 0);
        x.draft(1, 0, 0);
        x.row(16, 0);
        Due.is("22: who doesn't see it is free", x.open(x.pack(0), 0), 1);
        sealedBy(x, 16, -1, 1);
        sealedBy(x, 31, -1, 1);
        sealedBy(x, 240, -1, 15);
        sealedBy(x, 79, 4, 4);
        sealedBy(x, 250, 4, 4);
        sealedBy(x, 16, 4, 1);
        x.draft(2, 0, 0);
        x.need(0, 0, false);
        x.seal(1 + 1);
        x.seal(3);
        x.row(32, 0);
        x.row(15, 0);
        x.row(239, 0);
        Due.is("22: other groups", x.open(x.pack(0), 0), 2);
        x.draft(3, 0, 0);
        x.need(0, 0, false);
        x.need(1, 0, false);
        x.row(0, 0);
        Due.is("22: those that it sees may be at odds", x.open(x.pack(0), 0), 3);
        x.draft(5, 0, 0);
        x.need(3, 0, false);
        x.seal(0);
        Due.is("22: group 0", x.open(x.pack(0), 0), PackPost.SEALED);
        Due.is("23: group 0", x.why(), 0);
        x.draft(4, 0, 0);
        x.seal(1);
        x.need(1, 0, false);
        Due.is("22: a group that it seals itself", x.open(x.pack(0), 0), PackPost.SEALED);
        Due.is("23: the group", x.why(), 1);
    }

    /** Needs entry 0 and has a row of this key, and a seal if it isn't -1. */
    private static void sealedBy(PackPost x, int key, int seal, int group) {
        x.draft(9, 0, 0);
        x.need(0, 0, false);
        if (seal >= 0) {
            x.seal(seal);
        }
        x.row(key, 0);
        int p = x.pack(0);
        if (p < 0) {
            throw new IllegalStateException("no room for a pack");
        }
        Due.is("22: sealed key " + key, x.open(p, 0), PackPost.SEALED);
        Due.is("23: sealed group of key " + key, x.why(), group);
    }

    private static void sealedFarOff() {
        PackPost x = new PackPost();
        x.draft(0, 0, 0);
        x.seal(2);
        x.row(80, 0);
        x.open(x.pack(0), 0);
        Crafts.put(x, 1, 0, 0, Crafts.needs(0));
        Crafts.put(x, 2, 0, 0, Crafts.needs(1));
        Due.is("22: what these see", Crafts.put(x, 3, 0, 0, Crafts.needs(2), 40), PackPost.SEALED);
        Due.is("23: group 2", x.why(), 2);
        x.draft(3, 0, 0);
        x.need(2, 0, false);
        x.seal(5);
        int p = x.pack(0);
        Due.is("22: its own seal, far off", x.open(p, 0), PackPost.SEALED);
        Due.is("23: group 5", x.why(), 5);
        x.close(0);
        x.close(1);
        Due.is("22: seen also when closed since", x.open(p, 0), PackPost.SEALED);
        Crafts.put(x, 1, 1, 0, Crafts.needs());
        Due.is("22: as it was when opened", x.open(p, 0), PackPost.SEALED);
        Due.is("22: nothing of it", Crafts.put(x, 3, 0, 0, Crafts.needs(1), 40), 4);
    }

    private static void why() {
        PackPost x = new PackPost();
        Due.is("23: before any", x.why(), 0);
        int p = Crafts.craft(x, Crafts.summed(80, 75, 64, 0, 0, 0, 0, 0));
        x.open(p, 0);
        Due.is("23: the place", x.why(), 2);
        x.check(p);
        x.open(9, 0);
        Due.is("23: NUMBER tells nothing", x.why(), 2);
        x.trim(p, 1);
        Due.is("22: cut", x.open(p, 0), PackPost.BROKEN);
        Due.is("23: the cut", x.why(), 1);
        x.spoil(p, 0, 1);
        Due.is("22: wrong at its first byte", x.open(p, 0), PackPost.BROKEN);
        Due.is("23: the first byte", x.why(), 0);
        x.spoil(p, 0, 1);
        x.open(p, 0);
        Crafts.put(x, 1, 0, 0, Crafts.needs());
        Due.is("23: a pack that is opened tells nothing", x.why(), 1);
        x.draft(2, 0, 0);
        x.need(1, 0, false);
        x.need(5, 0, false);
        x.need(6, 0, false);
        x.need(7, 0, false);
        x.open(x.pack(0), 0);
        Due.is("23: the first need that isn't met", x.why(), 1);
        Crafts.put(x, 5, 0, 0, Crafts.needs());
        Crafts.put(x, 7, 0, 0, Crafts.needs());
        x.open(2, 0);
        Due.is("23: need 2 of 4", x.why(), 2);
        x.draft(8, 0, 0);
        x.seal(9);
        x.seal(3);
        x.seal(14);
        x.open(x.pack(0), 0);
        Due.is("22: the least group", Crafts.put(x, 3, 0, 0, Crafts.needs(8), 230, 150, 50, 60), PackPost.SEALED);
        Due.is("23: the least group", x.why(), 3);
        x.open(x.pack(0), 0);
        Due.is("23: it stays", x.why(), 3);
    }

    private static void entry() {
        PackPost x = new PackPost();
        Crafts.put(x, 4, 3, 0, Crafts.needs());
        Crafts.put(x, 5, 3, 0, Crafts.needs());
        x.draft(63, 99, 1);
        x.need(5, 99, false);
        x.need(4, 3, true);
        x.seal(3);
        x.row(1, 0);
        x.row(2, 1);
        x.row(3, 2);
        x.open(x.pack(77), 77);
        int[] due = {63, 99, 1, 3, 2, 1, 0, 0, 1, 0, -1, -1};
        for (int what = 0; what < due.length; what++) {
            Due.is("24: what " + what, x.entry(2, what), due[what]);
        }
        Due.is("24: far", x.entry(2, Integer.MAX_VALUE), -1);
        Due.is("24: what -1", x.entry(2, -1), -2);
        Due.is("24: entry 3", x.entry(3, 0), -2);
        Due.is("24: entry -1", x.entry(-1, 0), -2);
        Due.is("24: without needs", x.entry(0, 8), -1);
        Due.is("24: manner 0", x.entry(0, 2), 0);
        x.close(2);
        x.close(1);
        x.overlay(2, 0);
        x.overlay(2, 1);
        Due.is("24: CLOSED", x.entry(2, 6), 1);
        Due.is("24: overlays", x.entry(2, 7), 2);
        Due.is("24: a CLOSED one met it when it was opened", x.entry(2, 8), 1);
        Crafts.put(x, 4, 3, 0, Crafts.needs());
        Due.is("24: a later one doesn't", x.entry(2, 9), 0);
        x.draft(0, 0, 0);
        x.open(x.pack(5), 0);
        Due.is("24: signed, manner 0", x.entry(4, 2), 0);
    }

    private static void closeAndReopen() {
        PackPost x = new PackPost();
        Crafts.put(x, 1, 0, 0, Crafts.needs());
        Due.is("25: none such", x.close(1), PackPost.NUMBER);
        Due.is("25: -1", x.close(-1), PackPost.NUMBER);
        Due.is("26: none such", x.reopen(1), PackPost.NUMBER);
        Due.is("26: -1", x.reopen(-1), PackPost.NUMBER);
        Due.is("26: it isn't", x.reopen(0), PackPost.STATE);
        Due.is("25: close", x.close(0), 1);
        Due.is("25: is closed", x.entry(0, 6), 1);
        Due.is("25: it is", x.close(0), PackPost.STATE);
        Due.is("26: reopen", x.reopen(0), 1);
        Due.is("26: is open", x.entry(0, 6), 0);
        Due.is("26: it isn't any more", x.reopen(0), PackPost.STATE);
        Due.is("25: again", x.close(0), 1);
    }

    private static void overlay() {
        PackPost x = new PackPost();
        for (int e = 0; e < 6; e++) {
            Crafts.put(x, e, 0, 0, Crafts.needs());
        }
        Due.is("27: no e", x.overlay(6, 0), PackPost.NUMBER);
        Due.is("27: no o", x.overlay(0, 6), PackPost.NUMBER);
        Due.is("27: e -1", x.overlay(-1, 0), PackPost.NUMBER);
        Due.is("27: o -1", x.overlay(0, -1), PackPost.NUMBER);
        Due.is("27: NUMBER ahead of TWICE", x.overlay(6, 6), PackPost.NUMBER);
        Due.is("27: o is e", x.overlay(0, 0), PackPost.TWICE);
        for (int o = 1; o <= 4; o++) {
            Due.is("27: how many", x.overlay(0, o), o);
            Due.is("27: twice", x.overlay(0, 1), PackPost.TWICE);
        }
        Due.is("27: full", x.overlay(0, 5), PackPost.FULL);
        Due.is("27: TWICE ahead of FULL", x.overlay(0, 4), PackPost.TWICE);
        Due.is("27: o is e, ahead of FULL", x.overlay(0, 0), PackPost.TWICE);
        Due.is("27: the other way round", x.overlay(1, 0), 1);
        Due.is("27: counted", x.entry(0, 7), 4);
    }

    private static void findByManner() {
        PackPost x = new PackPost();
        Crafts.put(x, 0, 0, 0, Crafts.needs(), 1, 2, 3);
        Crafts.put(x, 1, 0, 0, Crafts.needs(), 2, 3, 4);
        Crafts.put(x, 2, 0, 0, Crafts.needs(1, 0), 3, 5);
        Crafts.put(x, 3, 0, 1, Crafts.needs(1, 0), 3, 5);
        Due.is("28: itself first", x.find(2, 3), 2);
        Due.is("28: needs first", x.find(3, 3), 1);
        Due.is("28: needs in order", x.find(2, 2), 1);
        Due.is("28: the second need", x.find(2, 1), 0);
        Due.is("28: needs first, then itself", x.find(3, 5), 3);
        Due.is("28: in none", x.find(2, 9), -1);
        Due.is("28: in none of manner 1", x.find(3, 9), -1);
        Due.is("28: not by others", x.find(0, 4), -1);
        Due.is("28: key 255", x.find(0, 255), -1);
        Due.is("28: key 256", x.find(0, 256), -2);
        Due.is("28: key -1", x.find(0, -1), -2);
        Due.is("28: entry 4", x.find(4, 0), -2);
        Due.is("28: entry -1", x.find(-1, 0), -2);
        Crafts.put(x, 4, 0, 0, Crafts.needs(3, 2), 9);
        Due.is("28: each by its own manner", x.find(4, 3), 1);
        Crafts.put(x, 5, 0, 1, Crafts.needs(2, 3), 3);
        Due.is("28: each by its own manner, other order", x.find(5, 3), 2);
    }

    private static void findAskedOnce() {
        PackPost x = new PackPost();
        Crafts.put(x, 0, 0, 0, Crafts.needs(), 7);
        Crafts.put(x, 1, 0, 1, Crafts.needs(0));
        Crafts.put(x, 2, 0, 0, Crafts.needs(0));
        Crafts.put(x, 3, 0, 0, Crafts.needs(1, 2), 8);
        Crafts.put(x, 4, 0, 1, Crafts.needs(1, 2, 3), 8);
        Crafts.pathIs("29: asked once", x, 3, 9, 3, 0, 1, 2);
        Crafts.pathIs("29: of manner 1", x, 4, 9, 0, 1, 2, 3, 4);
        Crafts.pathIs("29: up to where it is found", x, 3, 7, 3, 0);
        Crafts.pathIs("29: found behind others", x, 4, 8, 0, 1, 2, 3);
        Crafts.pathIs("29: alone", x, 0, 9, 0);
    }

    private static void findClosed() {
        PackPost x = new PackPost();
        Crafts.put(x, 0, 0, 0, Crafts.needs(), 7);
        Crafts.put(x, 1, 0, 0, Crafts.needs(0), 8);
        Crafts.put(x, 2, 0, 0, Crafts.needs(1));
        Crafts.put(x, 3, 0, 0, Crafts.needs(1, 0));
        x.close(1);
        Due.is("28: not through a CLOSED one", x.find(2, 7), -1);
        Due.is("28: but another way", x.find(3, 7), 0);
        Due.is("28: the first may be CLOSED", x.find(1, 8), 1);
        Due.is("28: and asks on", x.find(1, 7), 0);
        Crafts.pathIs("29: without the CLOSED one", x, 3, 9, 3, 0);
        Crafts.put(x, 1, 0, 0, Crafts.needs(), 9);
        Due.is("28: another one doesn't stand in", x.find(2, 9), -1);
        x.reopen(1);
        Due.is("28: reopened", x.find(2, 7), 0);
        x.close(0);
        Due.is("28: what is found is CLOSED", x.find(2, 7), -1);
        PackPost y = new PackPost();
        int last = -1;
        for (int n = 0; n < 12; n++) {
            last = Crafts.put(y, n, 0, n % 2, n == 0 ? Crafts.needs() : Crafts.needs(n - 1), n);
        }
        Due.is("28: a chain of twelve", y.find(last, 0), 0);
        Crafts.pathIs("29: a chain of twelve", y, last, 200, 10, 8, 6, 4, 2, 0, 1, 3, 5, 7, 9, 11);
    }

    private static void path() {
        PackPost x = new PackPost();
        Crafts.put(x, 0, 0, 0, Crafts.needs(), 7);
        Crafts.put(x, 1, 0, 0, Crafts.needs(0), 8);
        Due.is("29: first", x.path(1, 7, 0), 1);
        Due.is("29: second", x.path(1, 7, 1), 0);
        Due.is("29: behind", x.path(1, 7, 2), -1);
        Due.is("29: i -1", x.path(1, 7, -1), -1);
        Due.is("29: i far", x.path(1, 7, Integer.MAX_VALUE), -1);
        Due.is("29: found at once", x.path(1, 8, 1), -1);
        Due.is("29: no entry", x.path(2, 7, 0), -1);
        Due.is("29: entry -1", x.path(-1, 7, 0), -1);
        Due.is("29: key 256", x.path(1, 256, 0), -1);
        Due.is("29: key -1", x.path(1, -1, 0), -1);
        x.overlay(1, 0);
        Due.is("29: overlays are no matter", x.path(1, 7, 0), 1);
        Due.is("28: nor in finding", x.find(1, 8), 1);
    }

    private static void page() {
        PackPost x = new PackPost();
        Crafts.put(x, 0, 0, 0, Crafts.needs(), 1, 2);
        Crafts.put(x, 1, 0, 0, Crafts.needs(0), 2, 3);
        Crafts.put(x, 2, 0, 0, Crafts.needs(), 3, 4);
        Crafts.put(x, 3, 0, 0, Crafts.needs(2), 2, 5);
        Due.is("30: found in itself", x.page(1, 2), 1);
        Due.is("30: found in a need", x.page(1, 1), 0);
        Due.is("30: without", x.page(1, 4), -1);
        x.overlay(1, 2);
        Due.is("30: an overlay ahead of itself", x.page(1, 3), 2);
        Due.is("30: an overlay alone", x.page(1, 4), 2);
        Due.is("30: else what is found", x.page(1, 2), 1);
        x.overlay(1, 3);
        Due.is("30: the last overlay that has one", x.page(1, 3), 2);
        Due.is("30: the last overlay", x.page(1, 2), 3);
        x.overlay(1, 0);
        Due.is("30: put on it last", x.page(1, 2), 0);
        Due.is("30: only an overlay's own rows", x.page(0, 5), -1);
        x.overlay(0, 3);
        Due.is("30: of the first entry alone", x.page(1, 1), 0);
        Due.is("30: not of those asked", x.page(2, 5), -1);
        x.close(0);
        x.close(1);
        Due.is("30: a CLOSED overlay", x.page(1, 2), 0);
        Due.is("30: no such entry", x.page(4, 2), -2);
        Due.is("30: entry -1", x.page(-1, 2), -2);
        Due.is("30: key 256", x.page(1, 256), -2);
        Due.is("30: key -1", x.page(1, -1), -2);
        Crafts.put(x, 5, 0, 0, Crafts.needs(3));
        x.overlay(3, 0);
        Due.is("30: a need's overlay is no matter", x.page(4, 2), 3);
    }

    private static void read() {
        PackPost x = new PackPost();
        x.draft(0, 0, 0);
        x.row(1, 1);
        x.add(7, 7, 8, -1, -1);
        x.row(2, 2);
        x.add(1, 2, -1, -1, -1);
        x.again(2, 118);
        x.row(3, 0);
        x.open(x.pack(0), 0);
        Crafts.put(x, 1, 0, 0, Crafts.needs(0), 2);
        Due.is("31: first", x.read(0, 1, 0), 7);
        Due.is("31: last", x.read(0, 1, 2), 8);
        Due.is("31: behind", x.read(0, 1, 3), -1);
        Due.is("31: i -1", x.read(0, 1, -1), -1);
        Due.is("31: i far", x.read(0, 1, Integer.MIN_VALUE), -1);
        Due.is("31: byte 119", x.read(0, 2, 119), 2);
        Due.is("31: byte 120", x.read(0, 2, 120), -1);
        Due.is("31: empty page", x.read(0, 3, 0), -1);
        Due.is("31: no page", x.read(0, 4, 0), -1);
        Due.is("31: of a need", x.read(1, 1, 1), 7);
        Due.is("31: its own", x.read(1, 2, 0), 1);
        Due.is("31: its own has one byte", x.read(1, 2, 1), -1);
        x.overlay(1, 0);
        Due.is("31: of an overlay", x.read(1, 2, 1), 2);
        Due.is("31: no entry", x.read(2, 1, 0), -1);
        Due.is("31: entry -1", x.read(-1, 1, 0), -1);
        Due.is("31: key 256", x.read(0, 256, 0), -1);
        Due.is("31: key -1", x.read(0, -1, 0), -1);
    }

    private static void edition() {
        PackPost x = new PackPost();
        int[] editions = {5, 9, 5, 0, 9, 7};
        for (int edition : editions) {
            Crafts.put(x, 3, edition, 0, Crafts.needs());
        }
        Crafts.put(x, 4, 99, 0, Crafts.needs());
        x.close(4);
        int[] due = {4, 1, 5, 2, 0, 3, -1};
        for (int i = 0; i < due.length; i++) {
            Due.is("32: " + i, x.edition(3, i), due[i]);
        }
        Due.is("32: another name", x.edition(4, 0), 6);
        Due.is("32: another name, behind", x.edition(4, 1), -1);
        Due.is("32: none of that name", x.edition(5, 0), -1);
        Due.is("32: i -1", x.edition(3, -1), -1);
        Due.is("32: name -1", x.edition(-1, 0), -1);
        Due.is("32: name 64", x.edition(64, 0), -1);
    }

    private static void needed() {
        PackPost x = new PackPost();
        Crafts.put(x, 0, 0, 0, Crafts.needs());
        Crafts.put(x, 1, 0, 0, Crafts.needs());
        Crafts.put(x, 2, 0, 0, Crafts.needs(0));
        Crafts.put(x, 3, 0, 0, Crafts.needs(1, 0));
        Crafts.put(x, 4, 0, 0, Crafts.needs(3));
        Crafts.put(x, 5, 0, 0, Crafts.needs(1, 2, 3, 0));
        x.close(3);
        x.close(0);
        int[] due = {2, 3, 5, -1};
        for (int i = 0; i < due.length; i++) {
            Due.is("33: of 0, " + i, x.needed(0, i), due[i]);
        }
        Due.is("33: of 1", x.needed(1, 0), 3);
        Due.is("33: of 1, next", x.needed(1, 1), 5);
        Due.is("33: of 3", x.needed(3, 0), 4);
        Due.is("33: of 5", x.needed(5, 0), -1);
        Due.is("33: i -1", x.needed(0, -1), -1);
        Due.is("33: entry 6", x.needed(6, 0), -1);
        Due.is("33: entry -1", x.needed(-1, 0), -1);
        Crafts.put(x, 0, 0, 0, Crafts.needs());
        Crafts.put(x, 6, 0, 0, Crafts.needs(0));
        Due.is("33: a later one of that name", x.needed(6, 0), 7);
        Due.is("33: not the older one", x.needed(0, 3), -1);
    }
}
