/**
 * A post that sends packs of pages and opens them on a shelf. What each call
 * promises is said in the document, shared/DOC.md; words in capitals there are
 * the names used here.
 */
public final class PackPost {
    public static final int NUMBER = -1;
    public static final int STATE = -2;
    public static final int FULL = -3;
    public static final int TWICE = -4;
    public static final int BROKEN = -5;
    public static final int SIGN = -6;
    public static final int NEED = -7;
    public static final int SEALED = -8;
    public static final int SPOILED = -9;
    public static final int MIXED = -10;

    private static final int NONE = -1;
    // Some calls answer NONE as a finding of its own, so NUMBER moves one down there.
    private static final int NO_NUMBER = -2;

    private static final int BYTES = 256;
    private static final int NAMES = 64;
    private static final int EDITIONS = 100;
    private static final int KEYS = 256;
    private static final int GROUPS = 16;
    private static final int KEYS_OF_A_GROUP = 16;
    private static final int MANNERS = 2;
    private static final int SIGNED = 2;
    private static final int PACKINGS = 3;

    private static final int PACKS = 16;
    private static final int PACK_BYTES = 700;
    private static final int NEEDS = 4;
    private static final int SEALS = 4;
    private static final int ROWS = 8;
    private static final int PAGE_BYTES = 120;
    private static final int SIZE_MOST = 250;
    private static final int SUM_BYTES = 4;
    private static final int PACK_START = 1;

    // No page is longer than twice its bytes in any packing; a pack's head takes at most 72.
    private static final int BODY_ROOM = ROWS * 2 * PAGE_BYTES;
    private static final int DESK_ROOM = BODY_ROOM + 100;

    private static final int FIRST_LETTER = 80;
    private static final int SECOND_LETTER = 75;

    private static final int OP_COPY = 128;
    private static final int COPY_LESS = 125;
    private static final int COPY_LEAST = 3;
    private static final int COPY_MOST = 130;
    private static final int BACK_MOST = 255;
    private static final int PLAIN_MOST = 128;
    private static final int LIKE_MOST = 255;

    private static final int PART_MARK = 112;
    private static final int PART_START = 2;
    private static final int PART_HEAD = 4;
    private static final int PART_FRAME = PART_HEAD + SUM_BYTES;
    private static final int PARTS_MOST = 88;
    private static final int PART_LEAST = 8;
    private static final int PART_MOST = 100;
    private static final int TAPE_BYTES = PART_MOST + PART_FRAME;
    private static final int JOINED = 100;

    private static final int ENTRIES = 12;
    private static final int OVERLAYS = 4;

    private final Content sheet;
    private boolean drafting;
    private final ByteRow[] packs;
    private int packCount;
    private final ByteRow desk;
    private final ByteRow reel;
    private final Book[] books;
    private final PackWriter writer;
    private final PackReader reader;
    private final Shelf shelf;
    private final Finding finding;
    private int reason;

    public PackPost() {
        sheet = new Content();
        packs = new ByteRow[PACKS];
        desk = new ByteRow(DESK_ROOM);
        reel = new ByteRow(TAPE_BYTES);
        books = new Book[PACKS];
        for (int p = 0; p < PACKS; p++) {
            books[p] = new Book();
        }
        writer = new PackWriter();
        reader = new PackReader();
        shelf = new Shelf();
        finding = new Finding();
    }

    // ---- drafts

    public int draft(int name, int edition, int manner) {
        if (!isBelow(name, NAMES) || !isBelow(edition, EDITIONS) || !isBelow(manner, MANNERS)) {
            return NUMBER;
        }
        sheet.begin();
        sheet.title(name, edition, manner);
        drafting = true;
        return 1;
    }

    public int need(int name, int edition, boolean exact) {
        if (!isBelow(name, NAMES) || !isBelow(edition, EDITIONS)) {
            return NUMBER;
        }
        if (!drafting) {
            return STATE;
        }
        if (sheet.needsName(name)) {
            return TWICE;
        }
        if (sheet.needCount >= NEEDS) {
            return FULL;
        }
        sheet.putNeed(name, edition, exact);
        return sheet.needCount;
    }

    public int seal(int group) {
        if (!isBelow(group, GROUPS)) {
            return NUMBER;
        }
        if (!drafting) {
            return STATE;
        }
        if (sheet.sealsGroup(group)) {
            return TWICE;
        }
        if (sheet.sealCount >= SEALS) {
            return FULL;
        }
        sheet.putSeal(group);
        return sheet.sealCount;
    }

    public int row(int key, int packing) {
        if (!isBelow(key, KEYS) || !isBelow(packing, PACKINGS)) {
            return NUMBER;
        }
        if (!drafting) {
            return STATE;
        }
        if (sheet.rowOf(key) >= 0) {
            return TWICE;
        }
        if (sheet.rowCount >= ROWS) {
            return FULL;
        }
        sheet.putRow(key, packing);
        return sheet.rowCount;
    }

    public int add(int a, int b, int c, int d, int e) {
        int[] given = {a, b, c, d, e};
        int n = 0;
        while (n < given.length && given[n] != -1) {
            if (!isBelow(given[n], BYTES)) {
                return NUMBER;
            }
            n++;
        }
        if (!hasRowInDraft()) {
            return STATE;
        }
        int latest = sheet.rowCount - 1;
        if (sheet.pageLength(latest) + n > PAGE_BYTES) {
            return FULL;
        }
        for (int i = 0; i < n; i++) {
            sheet.putByte(latest, given[i]);
        }
        return sheet.pageLength(latest);
    }

    public int again(int back, int n) {
        if (n < 0 || n > PAGE_BYTES || back < 1 || back > PAGE_BYTES) {
            return NUMBER;
        }
        if (!hasRowInDraft()) {
            return STATE;
        }
        int latest = sheet.rowCount - 1;
        if (sheet.pageLength(latest) < back) {
            return STATE;
        }
        if (sheet.pageLength(latest) + n > PAGE_BYTES) {
            return FULL;
        }
        sheet.putCopies(latest, back, n);
        return sheet.pageLength(latest);
    }

    public int pack(int secret) {
        if (!drafting) {
            return STATE;
        }
        if (packCount >= PACKS) {
            return FULL;
        }
        writer.write(sheet, secret, desk);
        int p = keepDesk();
        if (p >= 0) {
            drafting = false;
        }
        return p;
    }

    // ---- packs

    public int length(int p) {
        ByteRow bytes = packAt(p);
        return bytes == null ? NUMBER : bytes.count;
    }

    public int octet(int p, int i) {
        ByteRow bytes = packAt(p);
        return bytes == null ? NONE : bytes.at(i);
    }

    public int spoil(int p, int i, int mask) {
        ByteRow bytes = packAt(p);
        return bytes == null ? NUMBER : xorByte(bytes, i, mask);
    }

    public int trim(int p, int n) {
        ByteRow bytes = packAt(p);
        if (bytes == null || n < 1 || n > bytes.count) {
            return NUMBER;
        }
        bytes.keepFirst(n);
        return 1;
    }

    public int check(int p) {
        ByteRow bytes = packAt(p);
        return bytes == null ? NO_NUMBER : reader.wrongPlace(bytes);
    }

    public int signer(int p, int secret) {
        ByteRow bytes = packAt(p);
        if (bytes == null) {
            return NUMBER;
        }
        return reader.wrongPlace(bytes) < 0 && reader.isSignedBy(secret) ? 1 : 0;
    }

    // ---- parts

    public int parts(int p, int size) {
        ByteRow bytes = packAt(p);
        if (bytes == null || !isPartSize(size)) {
            return NUMBER;
        }
        return partCount(bytes.count, size);
    }

    public int load(int p, int size, int i) {
        ByteRow bytes = packAt(p);
        if (bytes == null || !isPartSize(size)) {
            return NUMBER;
        }
        int many = partCount(bytes.count, size);
        if (!isBelow(i, many)) {
            return NUMBER;
        }
        reel.clear();
        reel.push(PART_MARK);
        reel.push(p);
        reel.push(i);
        reel.push(many);
        reel.pushRange(bytes, i * size, Math.min((i + 1) * size, bytes.count));
        reel.pushNumber(reel.sum(PART_START, reel.count));
        return reel.count;
    }

    public int tape(int k) {
        return reel.at(k);
    }

    public int bend(int k, int mask) {
        return xorByte(reel, k, mask);
    }

    public int take() {
        if (reel.count == 0) {
            return STATE;
        }
        Book taker = bookAt(reel.at(1));
        if (taker == null || isReelSpoiled()) {
            return SPOILED;
        }
        int i = reel.at(2);
        int many = reel.at(3);
        if (taker.wanted != 0 && taker.wanted != many) {
            return MIXED;
        }
        if (taker.hasPart(i)) {
            return TWICE;
        }
        if (taker.came + 1 < many) {
            taker.putPart(i, many, reel);
            return 0;
        }
        if (packCount >= PACKS || taker.bytes + reel.count - PART_FRAME > PACK_BYTES) {
            return FULL;
        }
        taker.putPart(i, many, reel);
        taker.joinOnto(desk);
        taker.clear();
        return JOINED + keepDesk();
    }

    public int book(int p, int what) {
        Book asked = bookAt(p);
        if (asked == null || what < 0) {
            return NUMBER;
        }
        if (what == 0) {
            return asked.wanted;
        }
        if (what == 1) {
            return asked.came;
        }
        return asked.hasPart(what - 2) ? 1 : 0;
    }

    public int drop(int p) {
        Book dropped = bookAt(p);
        if (dropped == null) {
            return NUMBER;
        }
        int had = dropped.came;
        dropped.clear();
        return had;
    }

    // ---- the shelf

    public int open(int p, int secret) {
        ByteRow bytes = packAt(p);
        if (bytes == null) {
            return NUMBER;
        }
        if (shelf.count >= ENTRIES) {
            return FULL;
        }
        int place = reader.wrongPlace(bytes);
        if (place >= 0) {
            return refuse(BROKEN, place);
        }
        if (secret != 0 && !reader.isSignedBy(secret)) {
            return SIGN;
        }
        int unmet = shelf.firstUnmet(reader.said);
        if (unmet >= 0) {
            return refuse(NEED, unmet);
        }
        int group = shelf.leastSealed(reader.said);
        if (group >= 0) {
            return refuse(SEALED, group);
        }
        return shelf.put(reader.handOver());
    }

    public int why() {
        return reason;
    }

    public int entry(int e, int what) {
        Entry asked = shelf.at(e);
        if (asked == null || what < 0) {
            return NO_NUMBER;
        }
        switch (what) {
            case 0:
                return asked.said.name;
            case 1:
                return asked.said.edition;
            case 2:
                return asked.said.manner;
            case 3:
                return asked.said.rowCount;
            case 4:
                return asked.said.needCount;
            case 5:
                return asked.said.sealCount;
            case 6:
                return asked.closed ? 1 : 0;
            case 7:
                return asked.overlayCount;
            default:
                return asked.meeting(what - 8);
        }
    }

    public int close(int e) {
        return setClosed(e, true);
    }

    public int reopen(int e) {
        return setClosed(e, false);
    }

    public int overlay(int e, int o) {
        Entry under = shelf.at(e);
        if (under == null || shelf.at(o) == null) {
            return NUMBER;
        }
        if (o == e || under.hasOverlay(o)) {
            return TWICE;
        }
        if (under.overlayCount >= OVERLAYS) {
            return FULL;
        }
        under.putOverlay(o);
        return under.overlayCount;
    }

    public int find(int e, int key) {
        if (shelf.at(e) == null || !isBelow(key, KEYS)) {
            return NO_NUMBER;
        }
        return finding.from(shelf, e, key);
    }

    public int path(int e, int key, int i) {
        if (shelf.at(e) == null || !isBelow(key, KEYS)) {
            return NONE;
        }
        finding.from(shelf, e, key);
        return finding.step(i);
    }

    public int page(int e, int key) {
        if (shelf.at(e) == null || !isBelow(key, KEYS)) {
            return NO_NUMBER;
        }
        return pageEntry(e, key);
    }

    public int read(int e, int key, int i) {
        if (shelf.at(e) == null || !isBelow(key, KEYS)) {
            return NONE;
        }
        Entry holder = shelf.at(pageEntry(e, key));
        return holder == null ? NONE : holder.said.byteAt(holder.said.rowOf(key), i);
    }

    public int edition(int name, int i) {
        return shelf.ranked(name, i);
    }

    public int needed(int e, int i) {
        return shelf.leaning(e, i);
    }

    // ---- helpers of the calls

    private static boolean isBelow(int x, int end) {
        return x >= 0 && x < end;
    }

    private static boolean isPartSize(int size) {
        return size >= PART_LEAST && size <= PART_MOST;
    }

    private static int partCount(int bytes, int size) {
        return size < 1 ? 0 : (bytes + size - 1) / size;
    }

    private static int xorByte(ByteRow bytes, int i, int mask) {
        if (!bytes.has(i) || mask < 1 || mask >= BYTES) {
            return NUMBER;
        }
        bytes.xor(i, mask);
        return 1;
    }

    private boolean hasRowInDraft() {
        return drafting && sheet.rowCount > 0;
    }

    private ByteRow packAt(int p) {
        return isBelow(p, packCount) ? packs[p] : null;
    }

    private Book bookAt(int p) {
        return isBelow(p, PACKS) ? books[p] : null;
    }

    private int keepDesk() {
        if (packCount >= PACKS || desk.count > PACK_BYTES) {
            return FULL;
        }
        packs[packCount] = desk.part(0, desk.count);
        packCount++;
        return packCount - 1;
    }

    private boolean isReelSpoiled() {
        int many = reel.at(3);
        int sumPlace = reel.count - SUM_BYTES;
        return reel.count <= PART_FRAME
            || reel.at(0) != PART_MARK
            || many < 1 || many > PARTS_MOST
            || reel.at(2) >= many
            || reel.number(sumPlace) != reel.sum(PART_START, sumPlace);
    }

    private int refuse(int answer, int told) {
        reason = told;
        return answer;
    }

    private int setClosed(int e, boolean closed) {
        Entry changed = shelf.at(e);
        if (changed == null) {
            return NUMBER;
        }
        if (changed.closed == closed) {
            return STATE;
        }
        changed.closed = closed;
        return 1;
    }

    private int pageEntry(int e, int key) {
        int over = shelf.overlayWith(e, key);
        return over >= 0 ? over : finding.from(shelf, e, key);
    }

    /** A row of bytes with a fixed room; places that are not there read as NONE. */
    private static final class ByteRow {
        private final int[] cells;
        private int count;

        ByteRow(int room) {
            cells = new int[Math.max(room, 0)];
        }

        boolean has(int i) {
            return i >= 0 && i < count;
        }

        int at(int i) {
            return i >= 0 && i < count ? cells[i] : NONE;
        }

        void clear() {
            count = 0;
        }

        // Every row has the room that the document's limits can fill, so nothing is lost here.
        void push(int b) {
            if (count < cells.length) {
                cells[count] = b;
                count++;
            }
        }

        void pushRange(ByteRow other, int from, int end) {
            for (int i = from; i < end; i++) {
                push(other.at(i));
            }
        }

        void pushNumber(int n) {
            for (int shift = 24; shift >= 0; shift -= 8) {
                push((n >>> shift) & 255);
            }
        }

        int number(int place) {
            int n = 0;
            for (int i = 0; i < SUM_BYTES; i++) {
                n = (n << 8) | (at(place + i) & 255);
            }
            return n;
        }

        int sum(int start, int end) {
            int s = start;
            for (int i = 0; i < end; i++) {
                s ^= at(i);
                s = ((s << 11) | (s >>> 21)) * 16777619;
            }
            return s;
        }

        void xor(int i, int mask) {
            if (has(i)) {
                cells[i] ^= mask;
            }
        }

        void keepFirst(int n) {
            if (n >= 0 && n < count) {
                count = n;
            }
        }

        ByteRow part(int from, int end) {
            ByteRow copy = new ByteRow(end - from);
            copy.pushRange(this, from, end);
            return copy;
        }
    }

    /** What a pack says: its title, NEEDS, SEALS and pages. A draft is one too. */
    private static final class Content {
        private int name;
        private int edition;
        private int manner;
        private boolean signed;
        private final int[] needNames = new int[NEEDS];
        private final int[] needEditions = new int[NEEDS];
        private final boolean[] needExact = new boolean[NEEDS];
        private int needCount;
        private final int[] seals = new int[SEALS];
        private int sealCount;
        private final int[] keys = new int[ROWS];
        private final int[] packings = new int[ROWS];
        private final int[] lengths = new int[ROWS];
        private final int[][] pages = new int[ROWS][PAGE_BYTES];
        private int rowCount;

        void begin() {
            signed = false;
            needCount = 0;
            sealCount = 0;
            rowCount = 0;
        }

        void title(int newName, int newEdition, int newManner) {
            name = newName;
            edition = newEdition;
            manner = newManner;
        }

        boolean needsName(int asked) {
            for (int i = 0; i < needCount; i++) {
                if (needNames[i] == asked) {
                    return true;
                }
            }
            return false;
        }

        void putNeed(int needName, int needEdition, boolean exact) {
            if (needCount < NEEDS) {
                needNames[needCount] = needName;
                needEditions[needCount] = needEdition;
                needExact[needCount] = exact;
                needCount++;
            }
        }

        boolean sealsGroup(int group) {
            for (int i = 0; i < sealCount; i++) {
                if (seals[i] == group) {
                    return true;
                }
            }
            return false;
        }

        void putSeal(int group) {
            if (sealCount < SEALS) {
                seals[sealCount] = group;
                sealCount++;
            }
        }

        int rowOf(int key) {
            for (int r = 0; r < rowCount; r++) {
                if (keys[r] == key) {
                    return r;
                }
            }
            return NONE;
        }

        boolean hasRowOfGroup(int group) {
            for (int r = 0; r < rowCount; r++) {
                if (keys[r] / KEYS_OF_A_GROUP == group) {
                    return true;
                }
            }
            return false;
        }

        void putRow(int key, int packing) {
            if (rowCount < ROWS) {
                keys[rowCount] = key;
                packings[rowCount] = packing;
                lengths[rowCount] = 0;
                rowCount++;
            }
        }

        int pageLength(int r) {
            return isBelow(r, rowCount) ? lengths[r] : 0;
        }

        int byteAt(int r, int i) {
            boolean isRow = r >= 0 && r < rowCount;
            return isRow && i >= 0 && i < lengths[r] ? pages[r][i] : NONE;
        }

        void putByte(int r, int b) {
            if (isBelow(r, rowCount) && lengths[r] < PAGE_BYTES) {
                pages[r][lengths[r]] = b;
                lengths[r]++;
            }
        }

        void putCopies(int r, int back, int n) {
            for (int i = 0; i < n; i++) {
                putByte(r, byteAt(r, pageLength(r) - back));
            }
        }

        void putLike(int r, int b, int n) {
            for (int i = 0; i < n; i++) {
                putByte(r, b);
            }
        }
    }

    /** Writes a draft in THE FORM. */
    private static final class PackWriter {
        private final ByteRow body = new ByteRow(BODY_ROOM);
        private final int[] sizes = new int[ROWS];
        private int matchBack;
        private int matchLength;

        void write(Content said, int secret, ByteRow out) {
            // The SIZES stand ahead of the pages, so the pages are packed first.
            writeBody(said);
            out.clear();
            writeHead(said, secret != 0, out);
            out.pushRange(body, 0, body.count);
            out.pushNumber(out.sum(PACK_START, out.count));
            if (secret != 0) {
                out.pushNumber(out.sum(secret, out.count));
            }
        }

        private void writeHead(Content said, boolean signed, ByteRow out) {
            out.push(FIRST_LETTER);
            out.push(SECOND_LETTER);
            out.push(said.name);
            out.push(said.edition);
            out.push(signed ? said.manner + SIGNED : said.manner);
            out.push(said.needCount);
            for (int i = 0; i < said.needCount; i++) {
                out.push(said.needNames[i]);
                out.push(said.needEditions[i]);
                out.push(said.needExact[i] ? 1 : 0);
            }
            out.push(said.sealCount);
            for (int i = 0; i < said.sealCount; i++) {
                out.push(said.seals[i]);
            }
            out.push(said.rowCount);
            for (int r = 0; r < said.rowCount; r++) {
                out.push(said.keys[r]);
                out.push(said.packings[r]);
                pushPair(out, said.lengths[r]);
                pushPair(out, sizes[r]);
            }
        }

        private static void pushPair(ByteRow out, int n) {
            out.push((n >>> 8) & 255);
            out.push(n & 255);
        }

        private void writeBody(Content said) {
            body.clear();
            for (int r = 0; r < said.rowCount; r++) {
                int before = body.count;
                switch (said.packings[r]) {
                    case 1:
                        writePairs(said, r);
                        break;
                    case 2:
                        writeOps(said, r);
                        break;
                    default:
                        writePlain(said, r, 0, said.pageLength(r));
                        break;
                }
                sizes[r] = body.count - before;
            }
        }

        private void writePlain(Content said, int r, int from, int end) {
            for (int i = from; i < end; i++) {
                body.push(said.byteAt(r, i));
            }
        }

        private void writePairs(Content said, int r) {
            int end = said.pageLength(r);
            int often = 0;
            for (int i = 0; i < end; i++) {
                often++;
                int b = said.byteAt(r, i);
                // Behind the page's end NONE is read, which is like no byte.
                if (often == LIKE_MOST || said.byteAt(r, i + 1) != b) {
                    body.push(often);
                    body.push(b);
                    often = 0;
                }
            }
        }

        private void writeOps(Content said, int r) {
            int end = said.pageLength(r);
            int plainFrom = 0;
            int place = 0;
            while (place < end) {
                searchMatch(said, r, place);
                if (matchLength < COPY_LEAST) {
                    place++;
                } else {
                    writePlainOps(said, r, plainFrom, place);
                    body.push(matchLength + COPY_LESS);
                    body.push(matchBack);
                    place += matchLength;
                    plainFrom = place;
                }
            }
            writePlainOps(said, r, plainFrom, end);
        }

        private void writePlainOps(Content said, int r, int from, int end) {
            for (int i = from; i < end; i += PLAIN_MOST) {
                int stop = Math.min(i + PLAIN_MOST, end);
                body.push(stop - i - 1);
                writePlain(said, r, i, stop);
            }
        }

        private void searchMatch(Content said, int r, int place) {
            matchBack = 0;
            matchLength = 0;
            int most = Math.min(COPY_MOST, said.pageLength(r) - place);
            int farthest = Math.min(BACK_MOST, place);
            for (int back = 1; back <= farthest && matchLength < most; back++) {
                int n = 0;
                while (n < most && said.byteAt(r, place + n) == said.byteAt(r, place + n - back)) {
                    n++;
                }
                // The nearest comes first, so only a longer one takes its place.
                if (n > matchLength) {
                    matchLength = n;
                    matchBack = back;
                }
            }
        }
    }

    /** Goes over a row of bytes by THE FORM, up to the first place where it is WRONG. */
    private static final class PackReader {
        private ByteRow bytes;
        private Content said;
        private int place;
        private int wrong;
        private final int[] lengths = new int[ROWS];
        private final int[] sizes = new int[ROWS];

        PackReader() {
            bytes = new ByteRow(0);
            said = new Content();
        }

        int wrongPlace(ByteRow gone) {
            bytes = gone;
            place = 0;
            wrong = NONE;
            said.begin();
            hearTitle();
            hearNeeds();
            hearSeals();
            hearRows();
            hearPages();
            hearEnd();
            return wrong;
        }

        // Asked only of bytes that were just found to be a pack.
        boolean isSignedBy(int secret) {
            int signPlace = bytes.count - SUM_BYTES;
            return said.signed && bytes.number(signPlace) == bytes.sum(secret, signPlace);
        }

        // An ENTRY keeps what it is handed, so the next pack is heard into a new one.
        Content handOver() {
            Content kept = said;
            said = new Content();
            return kept;
        }

        // Only the first WRONG place counts: behind it no byte is heard any more.
        private int next(int least, int most) {
            if (wrong >= 0) {
                return least;
            }
            int b = bytes.at(place);
            if (b == NONE || b < least || b > most) {
                wrong = place;
                return least;
            }
            place++;
            return b;
        }

        private boolean isFine() {
            return wrong < 0;
        }

        private void refuseAt(int here) {
            if (isFine()) {
                wrong = here;
            }
        }

        private void hearTitle() {
            next(FIRST_LETTER, FIRST_LETTER);
            next(SECOND_LETTER, SECOND_LETTER);
            int name = next(0, NAMES - 1);
            int edition = next(0, EDITIONS - 1);
            int manner = next(0, MANNERS + SIGNED - 1);
            said.title(name, edition, manner % MANNERS);
            said.signed = manner >= SIGNED;
        }

        private void hearNeeds() {
            int many = next(0, NEEDS);
            for (int i = 0; i < many && isFine(); i++) {
                int here = place;
                int name = next(0, NAMES - 1);
                if (said.needsName(name)) {
                    refuseAt(here);
                }
                int edition = next(0, EDITIONS - 1);
                int exact = next(0, 1);
                said.putNeed(name, edition, exact == 1);
            }
        }

        private void hearSeals() {
            int many = next(0, SEALS);
            for (int i = 0; i < many && isFine(); i++) {
                int here = place;
                int group = next(0, GROUPS - 1);
                if (said.sealsGroup(group)) {
                    refuseAt(here);
                }
                said.putSeal(group);
            }
        }

        private void hearRows() {
            int many = next(0, ROWS);
            for (int r = 0; r < many && isFine(); r++) {
                int here = place;
                int key = next(0, KEYS - 1);
                if (said.rowOf(key) >= 0) {
                    refuseAt(here);
                }
                int packing = next(0, PACKINGS - 1);
                said.putRow(key, packing);
                lengths[r] = hearPair(PAGE_BYTES);
                sizes[r] = hearPair(SIZE_MOST);
            }
        }

        // No number of two bytes may be above 255, so the higher byte is 0.
        private int hearPair(int most) {
            next(0, 0);
            return next(0, most);
        }

        private void hearPages() {
            for (int r = 0; r < said.rowCount && isFine(); r++) {
                switch (said.packings[r]) {
                    case 1:
                        hearPairs(r);
                        break;
                    case 2:
                        hearOps(r);
                        break;
                    default:
                        hearPlainPage(r);
                        break;
                }
            }
        }

        private int lacking(int r) {
            return lengths[r] - said.pageLength(r);
        }

        private void hearPlainPage(int r) {
            if (sizes[r] != lengths[r]) {
                refuseAt(place);
            }
            hearPlain(r, sizes[r]);
        }

        private void hearPlain(int r, int n) {
            for (int i = 0; i < n && isFine(); i++) {
                said.putByte(r, next(0, BYTES - 1));
            }
        }

        private void hearPairs(int r) {
            int end = place + sizes[r];
            for (int i = 0; i < SIZE_MOST && place < end && isFine(); i++) {
                boolean isLast = place + 1 == end;
                int often = next(1, isLast ? 0 : lacking(r));
                int b = next(0, BYTES - 1);
                if (isFine()) {
                    said.putLike(r, b, often);
                }
            }
            refuseIfLacking(r);
        }

        private void hearOps(int r) {
            int end = place + sizes[r];
            for (int i = 0; i < SIZE_MOST && place < end && isFine(); i++) {
                int here = place;
                int n = next(0, BYTES - 1);
                boolean isCopy = n >= OP_COPY;
                int stands = isCopy ? n - COPY_LESS : n + 1;
                int behind = isCopy ? 1 : stands;
                if (stands > lacking(r) || place + behind > end) {
                    refuseAt(here);
                }
                if (isCopy) {
                    hearCopy(r, stands);
                } else {
                    hearPlain(r, stands);
                }
            }
            refuseIfLacking(r);
        }

        private void hearCopy(int r, int n) {
            int back = next(1, said.pageLength(r));
            if (isFine()) {
                said.putCopies(r, back, n);
            }
        }

        private void refuseIfLacking(int r) {
            if (lacking(r) > 0) {
                refuseAt(place);
            }
        }

        private void hearEnd() {
            if (!isFine()) {
                return;
            }
            int sum = bytes.sum(PACK_START, place);
            for (int shift = 24; shift >= 0; shift -= 8) {
                int due = (sum >>> shift) & 255;
                next(due, due);
            }
            if (said.signed) {
                for (int i = 0; i < SUM_BYTES; i++) {
                    next(0, BYTES - 1);
                }
            }
            if (place < bytes.count) {
                refuseAt(place);
            }
        }
    }

    /** THE BOOK of one number of a pack: the PARTS that came and were taken. */
    private static final class Book {
        private final ByteRow[] taken = new ByteRow[PARTS_MOST];
        private int wanted;
        private int came;
        private int bytes;

        boolean hasPart(int i) {
            return isBelow(i, PARTS_MOST) && taken[i] != null;
        }

        void putPart(int i, int many, ByteRow reel) {
            if (isBelow(i, PARTS_MOST) && taken[i] == null) {
                taken[i] = reel.part(PART_HEAD, reel.count - SUM_BYTES);
                wanted = many;
                came++;
                bytes += reel.count - PART_FRAME;
            }
        }

        void joinOnto(ByteRow out) {
            out.clear();
            for (int i = 0; i < PARTS_MOST; i++) {
                ByteRow next = taken[i];
                if (next != null) {
                    out.pushRange(next, 0, next.count);
                }
            }
        }

        void clear() {
            for (int i = 0; i < PARTS_MOST; i++) {
                taken[i] = null;
            }
            wanted = 0;
            came = 0;
            bytes = 0;
        }
    }

    /** An opened pack: what it said then, who met its NEEDS then, and what it got since. */
    private static final class Entry {
        private final Content said;
        private final int[] metBy;
        // Bit e stands for ENTRY e.
        private final int sees;
        private boolean closed;
        private final int[] overlays = new int[OVERLAYS];
        private int overlayCount;

        Entry(Content said, int[] metBy, int sees) {
            this.said = said;
            this.metBy = metBy;
            this.sees = sees;
        }

        int meeting(int i) {
            return i >= 0 && i < said.needCount && i < metBy.length ? metBy[i] : NONE;
        }

        boolean leansOn(int e) {
            for (int i = 0; i < said.needCount; i++) {
                if (meeting(i) == e) {
                    return true;
                }
            }
            return false;
        }

        boolean hasOverlay(int o) {
            for (int i = 0; i < overlayCount; i++) {
                if (overlays[i] == o) {
                    return true;
                }
            }
            return false;
        }

        void putOverlay(int o) {
            if (overlayCount < OVERLAYS) {
                overlays[overlayCount] = o;
                overlayCount++;
            }
        }

        boolean hasRowOf(int key) {
            return said.rowOf(key) >= 0;
        }
    }

    /** THE SHELF: the ENTRIES, as they were opened. */
    private static final class Shelf {
        private final Entry[] entries = new Entry[ENTRIES];
        private int count;

        Entry at(int e) {
            return e >= 0 && e < count ? entries[e] : null;
        }

        int firstUnmet(Content said) {
            for (int i = 0; i < said.needCount; i++) {
                if (meeting(said, i) < 0) {
                    return i;
                }
            }
            return NONE;
        }

        int leastSealed(Content said) {
            int seen = seenBy(said);
            for (int group = 0; group < GROUPS; group++) {
                for (int e = 0; e < count; e++) {
                    if (((seen >>> e) & 1) == 1 && isBetween(group, said, at(e))) {
                        return group;
                    }
                }
            }
            return NONE;
        }

        // All that the pack will ever see is kept now: later closings do not change it.
        int put(Content said) {
            if (count >= ENTRIES) {
                return FULL;
            }
            int[] metBy = new int[NEEDS];
            for (int i = 0; i < said.needCount; i++) {
                metBy[i] = meeting(said, i);
            }
            entries[count] = new Entry(said, metBy, seenBy(said));
            count++;
            return count - 1;
        }

        int overlayWith(int e, int key) {
            Entry under = at(e);
            if (under == null) {
                return NONE;
            }
            for (int i = under.overlayCount - 1; i >= 0; i--) {
                Entry over = at(under.overlays[i]);
                if (over != null && over.hasRowOf(key)) {
                    return under.overlays[i];
                }
            }
            return NONE;
        }

        int ranked(int name, int rank) {
            for (int e = 0; e < count; e++) {
                Entry one = at(e);
                if (one != null && one.said.name == name && countAhead(one.said, e) == rank) {
                    return e;
                }
            }
            return NONE;
        }

        int leaning(int e, int rank) {
            int before = 0;
            for (int f = 0; f < count; f++) {
                Entry one = at(f);
                if (one != null && one.leansOn(e)) {
                    if (before == rank) {
                        return f;
                    }
                    before++;
                }
            }
            return NONE;
        }

        private int meeting(Content said, int i) {
            int best = NONE;
            int bestEdition = NONE;
            for (int e = 0; e < count; e++) {
                Entry one = at(e);
                // A later ENTRY of the same EDITION goes ahead of an earlier one.
                if (one != null && !one.closed && suits(one.said, said, i) && one.said.edition >= bestEdition) {
                    best = e;
                    bestEdition = one.said.edition;
                }
            }
            return best;
        }

        private static boolean suits(Content offered, Content asking, int i) {
            if (!isBelow(i, asking.needCount) || offered.name != asking.needNames[i]) {
                return false;
            }
            int wanted = asking.needEditions[i];
            return asking.needExact[i] ? offered.edition == wanted : offered.edition <= wanted;
        }

        private int seenBy(Content said) {
            int seen = 0;
            for (int i = 0; i < said.needCount; i++) {
                int e = meeting(said, i);
                Entry one = at(e);
                if (one != null) {
                    seen |= (1 << e) | one.sees;
                }
            }
            return seen;
        }

        private static boolean isBetween(int group, Content said, Entry seen) {
            if (seen == null) {
                return false;
            }
            return (seen.said.sealsGroup(group) && said.hasRowOfGroup(group))
                || (said.sealsGroup(group) && seen.said.hasRowOfGroup(group));
        }

        private int countAhead(Content said, int e) {
            int ahead = 0;
            for (int f = 0; f < count; f++) {
                Entry other = at(f);
                if (other != null && other.said.name == said.name) {
                    boolean isHigher = other.said.edition > said.edition;
                    if (isHigher || (other.said.edition == said.edition && f > e)) {
                        ahead++;
                    }
                }
            }
            return ahead;
        }
    }

    /** One finding of a KEY: who was ASKED, and THE PATH. */
    private static final class Finding {
        private final boolean[] asked = new boolean[ENTRIES];
        private final int[] trail = new int[ENTRIES];
        private int steps;

        int from(Shelf shelf, int first, int key) {
            for (int e = 0; e < ENTRIES; e++) {
                asked[e] = false;
            }
            steps = 0;
            return ask(this, shelf, first, key, 0);
        }

        int step(int i) {
            return isBelow(i, steps) ? trail[i] : NONE;
        }

        // NEEDS are met by earlier ENTRIES alone, so no asking goes deeper than there are ENTRIES.
        private static int ask(Finding now, Shelf shelf, int e, int key, int depth) {
            Entry one = shelf.at(e);
            if (one == null || depth >= ENTRIES || !isBelow(e, ENTRIES) || now.asked[e]) {
                return NONE;
            }
            if (depth > 0 && one.closed) {
                return NONE;
            }
            now.asked[e] = true;
            boolean needsFirst = one.said.manner == 1;
            if (!needsFirst && now.looksInto(one, e, key)) {
                return e;
            }
            for (int i = 0; i < one.said.needCount; i++) {
                int found = ask(now, shelf, one.meeting(i), key, depth + 1);
                if (found >= 0) {
                    return found;
                }
            }
            return needsFirst && now.looksInto(one, e, key) ? e : NONE;
        }

        private boolean looksInto(Entry one, int e, int key) {
            if (steps < ENTRIES) {
                trail[steps] = e;
                steps++;
            }
            return one.hasRowOf(key);
        }
    }
}
