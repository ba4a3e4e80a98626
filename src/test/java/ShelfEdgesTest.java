/** Promises 22 to 33 at their edges: a method for each sentence that names one. */
public final class ShelfEdgesTest {
    public static void main(String[] args) {
        openNumbers();
        openTwelve();
        openBroken();
        openSign();
        openNeedOfEachPlace();
        needMetByName();
        needMetByEdition();
        needMetByJustThat();
        needMetByHighestAndLatest();
        needMetByNoneThatIsClosed();
        sealedByOneThatItSees();
        sealedByItself();
        sealedGroupsOfKeys();
        sealedByWhatTheseSee();
        sealedAsTheySawWhenOpened();
        openKeepsWhatThePackHad();
        whyBeforeAny();
        whyThePlace();
        whyTheFirstNeed();
        whyTheLeastGroup();
        whyOfTheLatest();
        entryNumbers();
        entryCounts();
        entryMeetsNeeds();
        closeNumbers();
        closeTwice();
        reopenNumbers();
        reopenTwice();
        overlayNumbers();
        overlayTwice();
        overlayFull();
        findKeys();
        findEntries();
        findFirstThoughClosed();
        findAskedOnce();
        findByManner();
        pathEnds();
        pathOfTwelve();
        pathNoneSuch();
        pageOfTheLastOverlay();
        pageWithout();
        pageNumbers();
        readBytes();
        readNoneSuch();
        editionOrder();
        editionNoneSuch();
        neededOrder();
        neededNoneSuch();
        Due.end("ShelfEdgesTest");
    }

    private static int[] none() {
        return new int[0];
    }

    /** A new object with so many entries, of names 0, 1 and so on, edition 0, each with its name as its only key. */
    private static PackPost withEntries(int n) {
        PackPost x = new PackPost();
        for (int name = 0; name < n; name++) {
            Crafts.put(x, name, 0, 0, none(), name);
        }
        return x;
    }

    /** Opens a pack of name 60 that has this need. */
    private static int openNeeding(PackPost x, int name, int edition, boolean exact) {
        x.draft(60, 0, 0);
        x.need(name, edition, exact);
        return x.open(x.pack(0), 0);
    }

    /** Opens a pack of this name with one need (-1 for none), one seal and one key (likewise). */
    private static int openWith(PackPost x, int name, int need, int seal, int key) {
        x.draft(name, 0, 0);
        if (need >= 0) {
            x.need(need, 0, false);
        }
        if (seal >= 0) {
            x.seal(seal);
        }
        if (key >= 0) {
            x.row(key, 0);
        }
        return x.open(x.pack(0), 0);
    }

    // ---- open

    private static void openNumbers() {
        Due.sentence("22: NUMBER: there is none such");
        PackPost x = new PackPost();
        Crafts.smallPacks(x, 2);
        for (int p : Crafts.beyond(0, 1)) {
            Due.is("pack " + p, x.open(p, 0), PackPost.NUMBER);
        }
        Due.is("the last", x.open(1, 0), 0);
        Due.is("the first", x.open(0, 0), 1);
    }

    private static void openTwelve() {
        Due.sentence("22: FULL: there are 12 ENTRIES");
        PackPost x = new PackPost();
        Crafts.smallPacks(x, 1);
        for (int e = 0; e < 12; e++) {
            Due.is("entry", x.open(0, 0), e);
        }
        Due.is("the thirteenth", x.open(0, 0), PackPost.FULL);
        x.close(0);
        x.close(11);
        Due.is("CLOSED ones are there, too", x.open(0, 0), PackPost.FULL);
        Due.is("entry 11", x.entry(11, 0), 0);
        Due.is("entry 12", x.entry(12, 0), -2);
    }

    private static void openBroken() {
        Due.sentence("22: BROKEN: its bytes are no pack");
        PackPost x = new PackPost();
        Crafts.smallPacks(x, 1);
        for (int i = 0; i < 12; i++) {
            x.spoil(0, i, 128);
            Due.is("byte " + i, x.open(0, 0), PackPost.BROKEN);
            x.spoil(0, i, 128);
        }
        Due.is("as it was", x.open(0, 0), 0);
        int more = Crafts.craft(x, Crafts.join(Crafts.summed(80, 75, 0, 0, 0, 0, 0, 0), 0));
        Due.is("a byte more", x.open(more, 0), PackPost.BROKEN);
        x.trim(more, 12);
        Due.is("no byte more", x.open(more, 0), 1);
        x.trim(more, 11);
        Due.is("a byte less", x.open(more, 0), PackPost.BROKEN);
        x.trim(more, 1);
        Due.is("one byte", x.open(more, 0), PackPost.BROKEN);
    }

    private static void openSign() {
        Due.sentence("22: SIGN: secret isn't 0, and signer() isn't 1 for it");
        PackPost x = new PackPost();
        Crafts.smallPacks(x, 1);
        for (int secret : new int[] {1, -1, Integer.MIN_VALUE, Integer.MAX_VALUE}) {
            Due.is("not signed, by " + secret, x.open(0, secret), PackPost.SIGN);
            x.draft(0, 0, 0);
            int p = x.pack(secret);
            Due.is("one more than " + secret, x.open(p, secret == -1 ? 1 : secret + 1), PackPost.SIGN);
            Due.is("just " + secret, x.open(p, secret) >= 0 ? 1 : 0, 1);
            Due.is("0 for " + secret, x.open(p, 0) >= 0 ? 1 : 0, 1);
            x.spoil(p, 15, 1);
            Due.is("another SIGN for " + secret, x.open(p, secret), PackPost.SIGN);
        }
        Due.is("0, and another SIGN", x.open(1, 0), 8);
        Due.is("0, and not signed", x.open(0, 0), 9);
        int byZero = Crafts.craft(x, Crafts.signed(0, Crafts.summed(80, 75, 0, 0, 2, 0, 0, 0)));
        Due.is("signed by 0, and 1", x.open(byZero, 1), PackPost.SIGN);
        Due.is("signed by 0, and 0", x.open(byZero, 0), 10);
    }

    private static void openNeedOfEachPlace() {
        Due.sentence("22: NEED: a NEED isn't met");
        Due.is("an empty shelf", openNeeding(new PackPost(), 0, 99, false), PackPost.NEED);
        for (int missing = 0; missing < 4; missing++) {
            PackPost x = new PackPost();
            for (int name = 0; name < 4; name++) {
                if (name != missing) {
                    Crafts.put(x, name, 0, 0, none());
                }
            }
            Due.is("need " + missing + " of 4", Crafts.put(x, 9, 0, 0, Crafts.needs(0, 1, 2, 3)), PackPost.NEED);
            Crafts.put(x, missing, 0, 0, none());
            Due.is("all 4", Crafts.put(x, 9, 0, 0, Crafts.needs(0, 1, 2, 3)), 4);
        }
        Due.is("none is needed", Crafts.put(new PackPost(), 9, 0, 0, none()), 0);
    }

    private static void needMetByName() {
        Due.sentence("Term 4: A NEED of a pack is met by the ENTRY that has its NAME");
        for (int name : new int[] {0, 1, 62, 63}) {
            PackPost x = new PackPost();
            Crafts.put(x, name, 0, 0, none());
            Due.is("name " + name, openNeeding(x, name, 0, false), 1);
            Due.is("next to name " + name, openNeeding(x, name == 0 ? 1 : name - 1, 99, false), PackPost.NEED);
        }
        PackPost x = new PackPost();
        Due.is("not by itself", openNeeding(x, 60, 99, false), PackPost.NEED);
        Crafts.put(x, 60, 0, 0, none());
        Due.is("but by one of its own name", openNeeding(x, 60, 99, false), 1);
        Due.is("the earlier one", x.entry(1, 8), 0);
    }

    private static void needMetByEdition() {
        Due.sentence("Term 4: an EDITION that is that or a lower one");
        for (int edition : new int[] {0, 1, 50, 98, 99}) {
            PackPost x = new PackPost();
            Crafts.put(x, 3, edition, 0, none());
            if (edition > 0) {
                Due.is("above the wanted one: " + edition, openNeeding(x, 3, edition - 1, false), PackPost.NEED);
            }
            Due.is("just the wanted one: " + edition, openNeeding(x, 3, edition, false), 1);
            if (edition < 99) {
                Due.is("below the wanted one: " + edition, openNeeding(x, 3, edition + 1, false), 2);
            }
        }
        PackPost x = new PackPost();
        Crafts.put(x, 3, 0, 0, none());
        Due.is("the lowest for the highest", openNeeding(x, 3, 99, false), 1);
    }

    private static void needMetByJustThat() {
        Due.sentence("Term 4: an EDITION that is just that (if it must be)");
        for (int edition : new int[] {0, 1, 50, 98, 99}) {
            PackPost x = new PackPost();
            Crafts.put(x, 3, edition, 0, none());
            if (edition > 0) {
                Due.is("above the wanted one: " + edition, openNeeding(x, 3, edition - 1, true), PackPost.NEED);
            }
            Due.is("just the wanted one: " + edition, openNeeding(x, 3, edition, true), 1);
            if (edition < 99) {
                Due.is("below the wanted one: " + edition, openNeeding(x, 3, edition + 1, true), PackPost.NEED);
            }
        }
    }

    private static void needMetByHighestAndLatest() {
        Due.sentence("Term 4: of several the highest EDITION, of these the latest ENTRY");
        int[][] orders = {{1, 2, 3}, {3, 2, 1}, {2, 3, 1}, {3, 3, 1}, {1, 3, 3}, {3, 1, 3}};
        int[] due = {2, 0, 1, 1, 2, 2};
        for (int n = 0; n < orders.length; n++) {
            PackPost x = new PackPost();
            for (int edition : orders[n]) {
                Crafts.put(x, 3, edition, 0, none());
            }
            Due.is("order " + n, x.entry(openNeeding(x, 3, 99, false), 8), due[n]);
            Due.is("order " + n + ", just 3", x.entry(openNeeding(x, 3, 3, true), 8), due[n]);
        }
        PackPost x = new PackPost();
        for (int edition : new int[] {5, 6, 5, 7}) {
            Crafts.put(x, 3, edition, 0, none());
        }
        Due.is("not above the wanted one", x.entry(openNeeding(x, 3, 6, false), 8), 1);
        Due.is("the latest of the wanted one", x.entry(openNeeding(x, 3, 5, false), 8), 2);
    }

    private static void needMetByNoneThatIsClosed() {
        Due.sentence("Term 4: A NEED of a pack is met by the ENTRY that isn't CLOSED");
        PackPost x = new PackPost();
        Crafts.put(x, 3, 5, 0, none());
        Crafts.put(x, 3, 5, 0, none());
        Crafts.put(x, 3, 4, 0, none());
        x.close(1);
        Due.is("the earlier one", x.entry(openNeeding(x, 3, 5, false), 8), 0);
        x.close(0);
        Due.is("the lower one", x.entry(openNeeding(x, 3, 5, false), 8), 2);
        Due.is("not just that", openNeeding(x, 3, 5, true), PackPost.NEED);
        x.close(2);
        Due.is("none", openNeeding(x, 3, 5, false), PackPost.NEED);
        x.reopen(0);
        Due.is("reopened", x.entry(openNeeding(x, 3, 5, true), 8), 0);
    }

    private static void sealedByOneThatItSees() {
        Due.sentence("22: SEALED: a GROUP that one SEALS that it would SEE has a ROW of it");
        for (int group = 0; group < 16; group++) {
            PackPost x = new PackPost();
            Due.is("its own rows are free", openWith(x, 0, -1, group, group * 16), 0);
            Due.is("who doesn't see it is free", openWith(x, 1, -1, -1, group * 16), 1);
            Due.is("the group's first key", openWith(x, 2, 0, -1, group * 16), PackPost.SEALED);
            Due.is("the group", x.why(), group);
            Due.is("the group's last key", openWith(x, 2, 0, -1, group * 16 + 15), PackPost.SEALED);
            int below = (group * 16 + 255) % 256;
            int above = (group * 16 + 16) % 256;
            Due.is("the key below", openWith(x, 2, 0, -1, below), 2);
            Due.is("the key above", openWith(x, 3, 0, -1, above), 3);
            Due.is("no rows", openWith(x, 4, 0, -1, -1), 4);
            Due.is("the same seal, no rows", openWith(x, 5, 4, group, -1), PackPost.SEALED);
        }
    }

    private static void sealedByItself() {
        Due.sentence("22: SEALED: or a GROUP that it SEALS has a ROW of one that it would SEE");
        for (int group = 0; group < 16; group++) {
            PackPost x = new PackPost();
            openWith(x, 0, -1, -1, group * 16);
            openWith(x, 1, -1, -1, group * 16 + 15);
            Due.is("the group's first key", openWith(x, 2, 0, group, -1), PackPost.SEALED);
            Due.is("the group", x.why(), group);
            Due.is("the group's last key", openWith(x, 2, 1, group, -1), PackPost.SEALED);
            Due.is("the group below", openWith(x, 2, 0, (group + 15) % 16, -1), 2);
            Due.is("the group above", openWith(x, 3, 1, (group + 1) % 16, -1), 3);
            Due.is("it doesn't see them", openWith(x, 4, -1, group, group * 16), 4);
            openWith(x, 5, -1, group, -1);
            Due.is("a like seal of one without rows", openWith(x, 6, 5, group, -1), 6);
        }
    }

    private static void sealedGroupsOfKeys() {
        Due.sentence("Term 1: a KEY's GROUP is KEY / 16, without the rest");
        for (int key = 0; key < 256; key++) {
            PackPost x = new PackPost();
            openWith(x, 0, -1, -1, key);
            Due.is("the group of " + key, openWith(x, 1, 0, key >> 4, -1), PackPost.SEALED);
            Due.is("why of " + key, x.why(), key >> 4);
            Due.is("another group than that of " + key, openWith(x, 1, 0, key + 16 >> 4 & 15, -1), 1);
        }
    }

    private static void sealedByWhatTheseSee() {
        Due.sentence("Term 4: An ENTRY SEES those that meet its NEEDS, and what these SEE.");
        PackPost x = new PackPost();
        x.draft(0, 0, 0);
        x.seal(2);
        x.row(80, 0);
        x.open(x.pack(0), 0);
        for (int name = 1; name < 11; name++) {
            Crafts.put(x, name, 0, 0, Crafts.needs(name - 1));
        }
        Due.is("a seal ten entries on", openWith(x, 20, 10, -1, 32), PackPost.SEALED);
        Due.is("a row ten entries on", openWith(x, 20, 10, 5, -1), PackPost.SEALED);
        Due.is("neither", openWith(x, 20, 10, 6, 48), 11);
        PackPost y = withEntries(3);
        y.draft(9, 0, 0);
        y.seal(7);
        y.open(y.pack(0), 0);
        Due.is("the last of four needs", Crafts.put(y, 10, 0, 0, Crafts.needs(0, 1, 2, 9), 112), PackPost.SEALED);
        Due.is("the first of four needs", Crafts.put(y, 10, 0, 0, Crafts.needs(9, 0, 1, 2), 112), PackPost.SEALED);
        Due.is("none of three needs", Crafts.put(y, 10, 0, 0, Crafts.needs(0, 1, 2), 112), 4);
        Due.is("those that lean on the same one are free", openWith(y, 11, 9, -1, 0), 5);
    }

    private static void sealedAsTheySawWhenOpened() {
        Due.sentence("Term 4: An ENTRY SEES those that meet its NEEDS (when it was opened)");
        PackPost x = new PackPost();
        openWith(x, 0, -1, 2, -1);
        Crafts.put(x, 1, 0, 0, Crafts.needs(0));
        x.close(0);
        Due.is("closed since", openWith(x, 2, 1, -1, 32), PackPost.SEALED);
        openWith(x, 0, -1, 3, -1);
        Due.is("a later one of that name is not seen", openWith(x, 2, 1, -1, 48), 3);
        Due.is("but by who is opened now", openWith(x, 4, 0, -1, 48), PackPost.SEALED);
        Due.is("who doesn't see the closed one then", openWith(x, 4, 0, -1, 32), 4);
    }

    private static void openKeepsWhatThePackHad() {
        Due.sentence("Term 4: each keeps what its pack had then");
        PackPost x = new PackPost();
        x.draft(1, 2, 1);
        x.seal(3);
        x.row(4, 2);
        x.add(5, 6, 7, -1, -1);
        x.pack(0);
        x.open(0, 0);
        x.spoil(0, 2, 1);
        x.trim(0, 3);
        int[] due = {1, 2, 1, 1, 0, 1, 0, 0};
        for (int what = 0; what < 8; what++) {
            Due.is("entry " + what, x.entry(0, what), due[what]);
        }
        x.check(0);
        x.open(0, 0);
        x.draft(9, 9, 0);
        x.row(4, 0);
        x.add(1, 1, 1, 1, 1);
        x.open(x.pack(0), 0);
        for (int i = 0; i < 4; i++) {
            Due.is("read " + i, x.read(0, 4, i), i < 3 ? 5 + i : -1);
        }
        Due.is("name", x.entry(0, 0), 1);
    }

    // ---- why

    private static void whyBeforeAny() {
        Due.sentence("23: 0 before any");
        PackPost x = new PackPost();
        Due.is("new", x.why(), 0);
        Crafts.smallPacks(x, 1);
        x.open(0, 0);
        x.open(0, 5);
        x.open(9, 0);
        Due.is("opened, SIGN, NUMBER", x.why(), 0);
    }

    private static void whyThePlace() {
        Due.sentence("23: Of the latest open() that answered BROKEN: the place");
        PackPost x = new PackPost();
        Crafts.packOf(x, 700);
        for (int n : new int[] {699, 698, 44, 43, 2, 1}) {
            x.trim(0, n);
            Due.is("cut to " + n, x.open(0, 0), PackPost.BROKEN);
            Due.is("why " + n, x.why(), n);
            Due.is("as check() says", x.check(0), n);
        }
        x.spoil(0, 0, 1);
        x.open(0, 0);
        Due.is("place 0", x.why(), 0);
    }

    private static void whyTheFirstNeed() {
        Due.sentence("23: NEED: the number of the first such NEED (from 0 on)");
        for (int met = 0; met < 4; met++) {
            PackPost x = withEntries(met);
            Due.is(met + " are met", Crafts.put(x, 9, 0, 0, Crafts.needs(0, 1, 2, 3)), PackPost.NEED);
            Due.is("the first that isn't", x.why(), met);
            PackPost y = withEntries(met);
            Crafts.put(y, 3, 0, 0, none());
            int due = Crafts.put(y, 9, 0, 0, Crafts.needs(0, 1, 2, 3));
            Due.is("with the last one", due, met == 3 ? 4 : PackPost.NEED);
            Due.is("the first that isn't, with the last one", y.why(), met == 3 ? 0 : met);
        }
    }

    private static void whyTheLeastGroup() {
        Due.sentence("23: SEALED: the least such GROUP");
        PackPost x = new PackPost();
        x.draft(0, 0, 0);
        x.seal(9);
        x.seal(15);
        x.row(0, 0);
        x.row(255, 0);
        x.row(70, 0);
        x.open(x.pack(0), 0);
        Due.is("its rows", Crafts.put(x, 1, 0, 0, Crafts.needs(0), 250, 150), PackPost.SEALED);
        Due.is("the least of its rows", x.why(), 9);
        Due.is("one row", Crafts.put(x, 1, 0, 0, Crafts.needs(0), 250), PackPost.SEALED);
        Due.is("the highest group", x.why(), 15);
        leastOf(x, 4, 4, 9);
        leastOf(x, 15, 9, 9);
        leastOf(x, 0, 0, 9);
        // Seen farther on and nearer: the least of all, not the first that is met.
        PackPost y = new PackPost();
        openWith(y, 0, -1, 3, -1);
        openWith(y, 1, 0, 8, -1);
        Due.is("both", Crafts.put(y, 2, 0, 0, Crafts.needs(1), 128, 48), PackPost.SEALED);
        Due.is("the farther one's", y.why(), 3);
        PackPost z = new PackPost();
        openWith(z, 0, -1, 8, -1);
        openWith(z, 1, 0, 3, -1);
        Due.is("both again", Crafts.put(z, 2, 0, 0, Crafts.needs(1), 128, 48), PackPost.SEALED);
        Due.is("the nearer one's", z.why(), 3);
    }

    /** Sees entry 0, seals a group, and has a row of group 9 that entry 0 seals. */
    private static void leastOf(PackPost x, int seal, int due, int sealedRow) {
        x.draft(1, 0, 0);
        x.need(0, 0, false);
        x.seal(seal);
        x.row(sealedRow * 16, 0);
        Due.is("seals " + seal, x.open(x.pack(0), 0), PackPost.SEALED);
        Due.is("why", x.why(), due);
    }

    private static void whyOfTheLatest() {
        Due.sentence("23: Of the latest open() that answered BROKEN, NEED or SEALED");
        PackPost x = new PackPost();
        Crafts.smallPacks(x, 2);
        x.trim(1, 7);
        x.open(1, 0);
        Due.is("BROKEN", x.why(), 7);
        x.open(0, 3);
        Due.is("SIGN tells nothing", x.why(), 7);
        x.open(16, 0);
        Due.is("NUMBER tells nothing", x.why(), 7);
        x.open(0, 0);
        Due.is("an ENTRY tells nothing", x.why(), 7);
        Crafts.put(x, 9, 0, 0, Crafts.needs(0, 1));
        Due.is("NEED", x.why(), 1);
        openWith(x, 5, -1, 12, -1);
        openWith(x, 6, 5, -1, 200);
        Due.is("SEALED", x.why(), 12);
        openNeeding(x, 62, 0, false);
        Due.is("NEED 0", x.why(), 0);
        x.open(1, 0);
        Due.is("BROKEN again", x.why(), 7);
        for (int e = 2; e < 12; e++) {
            x.open(0, 0);
        }
        x.trim(1, 6);
        Due.is("FULL", x.open(1, 0), PackPost.FULL);
        Due.is("FULL tells nothing", x.why(), 7);
        Due.is("asked twice", x.why(), 7);
    }

    // ---- entry

    private static void entryNumbers() {
        Due.sentence("24: NUMBER is answered as -2 here: there is no such ENTRY, or what is below 0.");
        PackPost x = withEntries(2);
        for (int e : Crafts.beyond(0, 1)) {
            for (int what = -1; what < 10; what++) {
                Due.is("entry " + e + " what " + what, x.entry(e, what), -2);
            }
        }
        for (int what : new int[] {-1, -2, -8, Integer.MIN_VALUE}) {
            Due.is("what " + what, x.entry(0, what), -2);
        }
        Due.is("the last one", x.entry(1, 0), 1);
    }

    private static void entryCounts() {
        Due.sentence("24: what = 0 NAME, 1 EDITION, 2 MANNER (0, 1), 3 ROWS, 4 NEEDS, 5 SEALS, 6 CLOSED, 7 OVERLAYS");
        PackPost x = withEntries(5);
        x.draft(63, 99, 1);
        for (int i = 0; i < 4; i++) {
            x.need(3 - i, 0, true);
            x.seal(10 + i);
        }
        for (int r = 0; r < 8; r++) {
            x.row(240 + r, 0);
        }
        Due.is("the fullest", x.open(x.pack(5), 5), 5);
        for (int o = 0; o < 4; o++) {
            x.overlay(5, o);
        }
        x.close(5);
        int[] most = {63, 99, 1, 8, 4, 4, 1, 4, 3, 2, 1, 0, -1, -1};
        for (int what = 0; what < most.length; what++) {
            Due.is("of the fullest: " + what, x.entry(5, what), most[what]);
        }
        x.draft(0, 0, 0);
        Due.is("the emptiest", x.open(x.pack(0), 0), 6);
        int[] least = {0, 0, 0, 0, 0, 0, 0, 0, -1, -1};
        for (int what = 0; what < least.length; what++) {
            Due.is("of the emptiest: " + what, x.entry(6, what), least[what]);
        }
        x.draft(0, 0, 0);
        Due.is("signed", x.entry(x.open(x.pack(5), 0), 2), 0);
    }

    private static void entryMeetsNeeds() {
        Due.sentence("24: 8 + i: the ENTRY that meets NEED i; -1 if there is none such");
        for (int n = 0; n <= 4; n++) {
            PackPost x = withEntries(4);
            int[] needs = new int[n];
            for (int i = 0; i < n; i++) {
                needs[i] = (i + 2) % 4;
            }
            int e = Crafts.put(x, 9, 0, 0, needs);
            for (int i = 0; i < 6; i++) {
                Due.is("need " + i + " of " + n, x.entry(e, 8 + i), i < n ? (i + 2) % 4 : -1);
            }
            Due.is("far", x.entry(e, Integer.MAX_VALUE), -1);
            x.close(2);
            Crafts.put(x, 2, 0, 0, none());
            Due.is("as it was opened", x.entry(e, 8), n > 0 ? 2 : -1);
        }
    }

    // ---- close and reopen

    private static void closeNumbers() {
        Due.sentence("25: NUMBER: there is none such");
        PackPost x = withEntries(2);
        for (int e : Crafts.beyond(0, 1)) {
            Due.is("entry " + e, x.close(e), PackPost.NUMBER);
        }
        Due.is("the last", x.close(1), 1);
        Due.is("the other stays", x.entry(0, 6), 0);
    }

    private static void closeTwice() {
        Due.sentence("25: An ENTRY is CLOSED: 1. STATE: it is.");
        PackPost x = withEntries(1);
        Due.is("close", x.close(0), 1);
        Due.is("it is", x.entry(0, 6), 1);
        Due.is("again", x.close(0), PackPost.STATE);
        Due.is("it is still", x.entry(0, 6), 1);
        x.reopen(0);
        Due.is("reopened, and again", x.close(0), 1);
    }

    private static void reopenNumbers() {
        Due.sentence("26: NUMBER: there is none such");
        PackPost x = withEntries(2);
        x.close(0);
        x.close(1);
        for (int e : Crafts.beyond(0, 1)) {
            Due.is("entry " + e, x.reopen(e), PackPost.NUMBER);
        }
        Due.is("the last", x.reopen(1), 1);
        Due.is("the other stays", x.entry(0, 6), 1);
    }

    private static void reopenTwice() {
        Due.sentence("26: A CLOSED ENTRY isn't any more: 1. STATE: it isn't.");
        PackPost x = withEntries(1);
        Due.is("never closed", x.reopen(0), PackPost.STATE);
        Due.is("it isn't", x.entry(0, 6), 0);
        x.close(0);
        Due.is("reopen", x.reopen(0), 1);
        Due.is("it isn't any more", x.entry(0, 6), 0);
        Due.is("again", x.reopen(0), PackPost.STATE);
    }

    // ---- overlay

    private static void overlayNumbers() {
        Due.sentence("27: NUMBER: there is none such");
        PackPost x = withEntries(2);
        for (int e : Crafts.beyond(0, 1)) {
            Due.is("on " + e, x.overlay(e, 0), PackPost.NUMBER);
            Due.is("of " + e, x.overlay(0, e), PackPost.NUMBER);
            Due.is("of " + e + " on itself", x.overlay(e, e), PackPost.NUMBER);
        }
        Due.is("none came", x.entry(0, 7), 0);
        Due.is("the last on the first", x.overlay(0, 1), 1);
        Due.is("the first on the last", x.overlay(1, 0), 1);
    }

    private static void overlayTwice() {
        Due.sentence("27: TWICE: it is one already, or o is e");
        PackPost x = withEntries(5);
        for (int e = 0; e < 5; e++) {
            Due.is(e + " on itself", x.overlay(e, e), PackPost.TWICE);
        }
        for (int o = 1; o < 5; o++) {
            Due.is("overlay " + o, x.overlay(0, o), o);
            for (int again = 1; again <= o; again++) {
                Due.is(again + " of " + o + " again", x.overlay(0, again), PackPost.TWICE);
            }
        }
        Due.is("four", x.entry(0, 7), 4);
        Due.is("on another it isn't one", x.overlay(1, 2), 1);
    }

    private static void overlayFull() {
        Due.sentence("27: how many it has. FULL: it has 4.");
        PackPost x = withEntries(7);
        for (int o = 1; o <= 4; o++) {
            Due.is("how many", x.overlay(0, o), o);
        }
        Due.is("the fifth", x.overlay(0, 5), PackPost.FULL);
        Due.is("another fifth", x.overlay(0, 6), PackPost.FULL);
        Due.is("four", x.entry(0, 7), 4);
        x.close(4);
        Due.is("a CLOSED one is there, too", x.overlay(0, 5), PackPost.FULL);
        Due.is("another entry has its own four", x.overlay(6, 0), 1);
    }

    // ---- find and path

    private static void findKeys() {
        Due.sentence("28: NUMBER is answered as -2 here: key isn't 0 .. 255.");
        PackPost x = new PackPost();
        Crafts.put(x, 1, 0, 0, none(), 0, 255);
        for (int key : Crafts.beyond(0, 255)) {
            Due.is("key " + key, x.find(0, key), -2);
        }
        Due.is("key 0", x.find(0, 0), 0);
        Due.is("key 255", x.find(0, 255), 0);
        Due.is("key 1", x.find(0, 1), -1);
        Due.is("key 254", x.find(0, 254), -1);
    }

    private static void findEntries() {
        Due.sentence("28: NUMBER is answered as -2 here: there is no such ENTRY");
        Due.is("an empty shelf", new PackPost().find(0, 0), -2);
        PackPost x = withEntries(12);
        for (int e : Crafts.beyond(0, 11)) {
            Due.is("entry " + e, x.find(e, 0), -2);
        }
        Due.is("entry 11", x.find(11, 11), 11);
        Due.is("no row of it", x.find(11, 0), -1);
    }

    private static void findFirstThoughClosed() {
        Due.sentence("TO FIND: and (but the first one) isn't CLOSED");
        for (int manner = 0; manner < 2; manner++) {
            PackPost x = new PackPost();
            Crafts.put(x, 0, 0, manner, none(), 1);
            Crafts.put(x, 1, 0, manner, Crafts.needs(0), 2);
            Crafts.put(x, 2, 0, manner, Crafts.needs(1), 3);
            for (int e = 0; e < 3; e++) {
                x.close(e);
            }
            Due.is("the first, itself", x.find(2, 3), 2);
            Due.is("not its need", x.find(2, 2), -1);
            Due.is("nor that one's need", x.find(2, 1), -1);
            x.reopen(0);
            Due.is("not through a CLOSED one", x.find(2, 1), -1);
            Due.is("the path skips it", x.path(2, 1, 1), -1);
            x.reopen(1);
            Due.is("through an open one", x.find(2, 1), 0);
            Due.is("itself still", x.find(2, 3), 2);
        }
    }

    private static void findAskedOnce() {
        Due.sentence("TO FIND: To ASK one that wasn't ASKED in this finding yet");
        PackPost x = new PackPost();
        Crafts.put(x, 0, 0, 0, none(), 9);
        Crafts.put(x, 1, 0, 0, Crafts.needs(0));
        Crafts.put(x, 2, 0, 0, Crafts.needs(0, 1));
        Crafts.put(x, 3, 0, 0, Crafts.needs(0, 1, 2));
        Crafts.pathIs("each once", x, 3, 200, 3, 0, 1, 2);
        Crafts.pathIs("anew in the next finding", x, 3, 200, 3, 0, 1, 2);
        Due.is("found anew", x.find(3, 9), 0);
        Due.is("found anew again", x.find(3, 9), 0);
        Crafts.pathIs("up to the finding one", x, 3, 9, 3, 0);
    }

    private static void findByManner() {
        Due.sentence("TO FIND: MANNER 0: it itself; else those that meet its NEEDS, in order; MANNER 1: first those");
        for (int manner = 0; manner < 2; manner++) {
            PackPost x = new PackPost();
            Crafts.put(x, 0, 0, 0, none(), 1, 2);
            Crafts.put(x, 1, 0, 0, none(), 1, 3);
            Crafts.put(x, 2, 0, manner, Crafts.needs(1, 0), 1, 2, 4);
            Due.is("all have it", x.find(2, 1), manner == 0 ? 2 : 1);
            Due.is("the second need has it", x.find(2, 2), manner == 0 ? 2 : 0);
            Due.is("the first need alone", x.find(2, 3), 1);
            Due.is("itself alone", x.find(2, 4), 2);
            Due.is("none", x.find(2, 5), -1);
        }
    }

    private static void pathEnds() {
        Due.sentence("THE PATH: the ENTRIES in the order in which each looked into its own ROWS");
        for (int manner = 0; manner < 2; manner++) {
            PackPost x = new PackPost();
            Crafts.put(x, 0, 0, 0, none(), 1);
            Crafts.put(x, 1, 0, manner, Crafts.needs(0), 2);
            if (manner == 0) {
                Crafts.pathIs("itself", x, 1, 2, 1);
                Crafts.pathIs("its need", x, 1, 1, 1, 0);
                Crafts.pathIs("none", x, 1, 3, 1, 0);
            } else {
                Crafts.pathIs("itself, needs first", x, 1, 2, 0, 1);
                Crafts.pathIs("its need first", x, 1, 1, 0);
                Crafts.pathIs("none, needs first", x, 1, 3, 0, 1);
            }
        }
    }

    private static void pathOfTwelve() {
        Due.sentence("29: ENTRY i (from 0 on) of THE PATH: all twelve");
        for (int manner = 0; manner < 2; manner++) {
            PackPost x = new PackPost();
            for (int name = 0; name < 12; name++) {
                Crafts.put(x, name, 0, manner, name == 0 ? none() : Crafts.needs(name - 1), name);
            }
            for (int i = 0; i < 12; i++) {
                Due.is("path " + i, x.path(11, 200, i), manner == 0 ? 11 - i : i);
            }
            Due.is("path 12", x.path(11, 200, 12), -1);
            Due.is("find the farthest", x.find(11, 0), 0);
        }
    }

    private static void pathNoneSuch() {
        Due.sentence("29: -1 if there is none such.");
        PackPost x = withEntries(2);
        for (int i : Crafts.beyond(0, 0)) {
            Due.is("i " + i, x.path(1, 1, i), -1);
        }
        for (int e : Crafts.beyond(0, 1)) {
            Due.is("entry " + e, x.path(e, 1, 0), -1);
        }
        for (int key : Crafts.beyond(0, 255)) {
            Due.is("key " + key, x.path(1, key, 0), -1);
        }
        Due.is("key 0", x.path(1, 0, 0), 1);
        Due.is("key 255", x.path(1, 255, 0), 1);
    }

    // ---- page and read

    private static void pageOfTheLastOverlay() {
        Due.sentence("A PAGE: that of the OVERLAY put on it last that has a ROW of that KEY, else what is FOUND");
        PackPost x = new PackPost();
        Crafts.put(x, 0, 0, 0, none(), 1, 2, 3, 4, 5, 6);
        Crafts.put(x, 1, 0, 0, none(), 1, 2, 3, 4, 7);
        Crafts.put(x, 2, 0, 0, none(), 1, 2, 3);
        Crafts.put(x, 3, 0, 0, none(), 1, 2);
        Crafts.put(x, 4, 0, 0, none(), 1);
        int[] due = {4, 3, 2, 1, 0, 0, 1};
        for (int o = 1; o <= 4; o++) {
            x.overlay(0, o);
        }
        for (int key = 1; key <= 7; key++) {
            Due.is("key " + key, x.page(0, key), due[key - 1]);
            Due.is("its byte " + key, x.read(0, key, 0), due[key - 1]);
            Due.is("found " + key, x.find(0, key), key < 7 ? 0 : -1);
        }
        for (int o = 1; o <= 4; o++) {
            Due.is("put on again", x.overlay(0, o), PackPost.TWICE);
            Due.is("it isn't the last for that", x.page(0, 1), 4);
            Due.is("nor the last but one", x.page(0, 2), 3);
            Due.is("nor the second", x.page(0, 3), 2);
        }
        x.close(4);
        Due.is("CLOSED, its ROWS are an OVERLAY still", x.page(0, 1), 4);
        Due.is("an OVERLAY's own OVERLAYS are none", x.overlay(4, 1), 1);
        Due.is("key 7 by two steps", x.page(4, 7), 1);
        PackPost y = new PackPost();
        Crafts.put(y, 0, 0, 0, none(), 1);
        Crafts.put(y, 1, 0, 0, Crafts.needs(0), 2);
        Crafts.put(y, 2, 0, 0, none());
        Crafts.put(y, 3, 0, 0, none(), 3);
        y.overlay(2, 1);
        y.overlay(1, 3);
        Due.is("an overlay's needs are not asked", y.page(2, 1), -1);
        Due.is("an overlay's own rows", y.page(2, 2), 1);
        Due.is("nor is an overlay's overlay", y.page(2, 3), -1);
        PackPost z = new PackPost();
        Crafts.put(z, 7, 0, 0, none(), 1);
        Crafts.put(z, 8, 0, 0, none(), 1);
        z.overlay(1, 0);
        Due.is("ENTRY 0 is an OVERLAY like others", z.page(1, 1), 0);
        Due.is("and so are its bytes", z.read(1, 1, 0), 7);
    }

    private static void pageWithout() {
        Due.sentence("30: The ENTRY of the PAGE of a KEY from ENTRY e; -1 without.");
        PackPost x = withEntries(2);
        Due.is("no page", x.page(0, 1), -1);
        x.overlay(0, 1);
        Due.is("of an overlay", x.page(0, 1), 1);
        Due.is("no page, with an overlay", x.page(0, 2), -1);
        x.close(0);
        Due.is("of the first though CLOSED", x.page(0, 0), 0);
    }

    private static void pageNumbers() {
        Due.sentence("30: NUMBER is answered as -2 here: there is no such ENTRY, or key isn't 0 .. 255.");
        PackPost x = new PackPost();
        Due.is("an empty shelf", x.page(0, 0), -2);
        Crafts.put(x, 1, 0, 0, none(), 0, 255);
        for (int key : Crafts.beyond(0, 255)) {
            Due.is("key " + key, x.page(0, key), -2);
        }
        for (int e : Crafts.beyond(0, 0)) {
            Due.is("entry " + e, x.page(e, 0), -2);
        }
        Due.is("key 0", x.page(0, 0), 0);
        Due.is("key 255", x.page(0, 255), 0);
    }

    private static void readBytes() {
        Due.sentence("31: Byte i of that PAGE");
        for (int packing = 0; packing < 3; packing++) {
            PackPost x = new PackPost();
            x.draft(0, 0, 0);
            x.row(0, packing);
            x.add(0, 255, 7, -1, -1);
            x.again(3, 117);
            x.row(255, packing);
            x.add(255, -1, -1, -1, -1);
            x.row(9, packing);
            x.open(x.pack(0), 0);
            for (int i = 0; i < 120; i++) {
                Due.is("byte " + i, x.read(0, 0, i), i % 3 == 0 ? 0 : i % 3 == 1 ? 255 : 7);
            }
            Due.is("byte 120", x.read(0, 0, 120), -1);
            Due.is("the only byte", x.read(0, 255, 0), 255);
            Due.is("behind the only byte", x.read(0, 255, 1), -1);
            Due.is("an empty page", x.read(0, 9, 0), -1);
            Due.is("which is there", x.page(0, 9), 0);
        }
    }

    private static void readNoneSuch() {
        Due.sentence("31: -1 if there is none such.");
        PackPost x = withEntries(2);
        for (int i : Crafts.beyond(0, 0)) {
            Due.is("byte " + i, x.read(1, 1, i), -1);
        }
        for (int e : Crafts.beyond(0, 1)) {
            Due.is("entry " + e, x.read(e, 1, 0), -1);
        }
        for (int key : Crafts.beyond(0, 255)) {
            Due.is("key " + key, x.read(1, key, 0), -1);
        }
        Due.is("no page", x.read(1, 0, 0), -1);
        Due.is("a page", x.read(1, 1, 0), 1);
        x.draft(5, 0, 0);
        x.row(1, 0);
        x.open(x.pack(0), 0);
        x.overlay(1, 2);
        Due.is("an overlay's empty page stands ahead", x.read(1, 1, 0), -1);
    }

    // ---- edition and needed

    private static void editionOrder() {
        Due.sentence("32: by EDITION, the highest first, of one EDITION the latest first (also CLOSED ones)");
        PackPost x = new PackPost();
        int[] editions = {0, 99, 50, 99, 0, 51, 50, 1, 98, 99, 0, 49};
        for (int edition : editions) {
            Crafts.put(x, 63, edition, 0, none());
        }
        x.close(9);
        x.close(0);
        int[] due = {9, 3, 1, 8, 5, 6, 2, 11, 7, 10, 4, 0};
        for (int i = 0; i < 12; i++) {
            Due.is("i " + i, x.edition(63, i), due[i]);
        }
        Due.is("i 12", x.edition(63, 12), -1);
        for (int first : new int[] {99, 50, 1, 0}) {
            PackPost y = new PackPost();
            Crafts.put(y, 5, first, 0, none());
            Crafts.put(y, 5, 50, 0, none());
            Due.is("ENTRY 0 of " + first, y.edition(5, first > 50 ? 0 : 1), 0);
            Due.is("ENTRY 1 of 50, beside " + first, y.edition(5, first > 50 ? 1 : 0), 1);
        }
    }

    private static void editionNoneSuch() {
        Due.sentence("32: -1 if there is none such.");
        PackPost x = new PackPost();
        Crafts.put(x, 0, 0, 0, none());
        Crafts.put(x, 63, 0, 0, none());
        for (int name : Crafts.beyond(0, 63)) {
            Due.is("name " + name, x.edition(name, 0), -1);
        }
        for (int i : Crafts.beyond(0, 0)) {
            Due.is("i " + i, x.edition(0, i), -1);
        }
        for (int name = 0; name < 64; name++) {
            Due.is("name " + name, x.edition(name, 0), name == 0 ? 0 : name == 63 ? 1 : -1);
        }
    }

    private static void neededOrder() {
        Due.sentence("33: The i-th ENTRY, by numbers, of which a NEED is met by ENTRY e");
        PackPost x = withEntries(4);
        int[][] needs = {{3, 2, 1, 0}, {0}, {1, 0}, {2, 3, 0}, {60}, {1}};
        Crafts.put(x, 60, 0, 0, none());
        for (int n = 0; n < needs.length; n++) {
            Crafts.put(x, 20 + n, 0, 0, needs[n]);
        }
        x.close(5);
        x.close(0);
        int[] ofZero = {5, 6, 7, 8, -1};
        int[] ofOne = {5, 7, 10, -1};
        int[] ofThree = {5, 8, -1};
        for (int i = 0; i < ofZero.length; i++) {
            Due.is("first, last and only needs, " + i, x.needed(0, i), ofZero[i]);
        }
        for (int i = 0; i < ofOne.length; i++) {
            Due.is("of 1, " + i, x.needed(1, i), ofOne[i]);
        }
        for (int i = 0; i < ofThree.length; i++) {
            Due.is("of 3, " + i, x.needed(3, i), ofThree[i]);
        }
        Due.is("of 4", x.needed(4, 0), 9);
        Due.is("of one that none needs", x.needed(10, 0), -1);
        Due.is("not who sees it farther on", x.needed(4, 1), -1);
    }

    private static void neededNoneSuch() {
        Due.sentence("33: -1 if there is none such.");
        PackPost x = withEntries(1);
        Crafts.put(x, 9, 0, 0, Crafts.needs(0));
        for (int i : Crafts.beyond(0, 0)) {
            Due.is("i " + i, x.needed(0, i), -1);
        }
        for (int e : Crafts.beyond(0, 1)) {
            Due.is("entry " + e, x.needed(e, 0), -1);
        }
        Due.is("i 0", x.needed(0, 0), 1);
        // Entry 0 has no needs: the places of needs that it lacks are met by none.
        PackPost y = withEntries(3);
        Due.is("no needs at all, of 0", y.needed(0, 0), -1);
        Due.is("no needs at all, of -1", y.needed(-1, 0), -1);
    }
}
