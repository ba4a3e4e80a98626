import java.util.Arrays;

/** THE FORM of a pack, and the places at which a row of bytes is WRONG: a method for each sentence of term 2. */
public final class FormEdgesTest {
    private static final int RIGHT = -1;

    public static void main(String[] args) {
        letters();
        nameAndEdition();
        manner();
        needCount();
        needBytes();
        needNameTwice();
        sealCount();
        sealGroups();
        sealTwice();
        rowCount();
        rowKeys();
        rowKeyTwice();
        rowPackings();
        rowLengths();
        rowSizes();
        plainSizes();
        pairsOften();
        pairsLastOfSize();
        pairsLacking();
        opsAsTheyAre();
        opsAsTheyAreOfSize();
        opsCopies();
        opsCopyLastOfSize();
        opsDistance();
        opsLacking();
        sumBytes();
        signBytes();
        noByteThere();
        bytesBehindTheEnd();
        firstOfSeveral();
        ownWritingsAreRight();
        Due.end("FormEdgesTest");
    }

    private static void place(String what, int due, int... bytes) {
        Due.is(what, Crafts.checkOf(bytes), due);
    }

    /** These bytes ahead of a right SUM. */
    private static void summed(String what, int due, int... bytes) {
        place(what, due, Crafts.summed(bytes));
    }

    private static int[] with(int[] bytes, int place, int b) {
        int[] changed = bytes.clone();
        changed[place] = b;
        return changed;
    }

    /** Every value of one byte: up to most the row of bytes is a pack, above it is WRONG just there. */
    private static void upTo(String what, int place, int most, int... bytes) {
        for (int b = 0; b <= 255; b++) {
            summed(what + " " + b, b <= most ? RIGHT : place, with(bytes, place, b));
        }
    }

    /** A row of this packing, LENGTH and SIZE; its bytes begin at place 14. */
    private static void row(String what, int due, int packing, int length, int size, int... packed) {
        summed(what, due, Crafts.join(new int[] {80, 75, 0, 0, 0, 0, 0, 1, 7, packing, 0, length, 0, size}, packed));
    }

    private static void letters() {
        Due.sentence("THE FORM of a pack, in this order: 80; 75");
        int[] least = {80, 75, 0, 0, 0, 0, 0, 0};
        for (int b = 0; b <= 255; b++) {
            summed("first " + b, b == 80 ? RIGHT : 0, with(least, 0, b));
            summed("second " + b, b == 75 ? RIGHT : 1, with(least, 1, b));
        }
    }

    private static void nameAndEdition() {
        Due.sentence("its NAME (0 .. 63); its EDITION (0 .. 99)");
        upTo("name", 2, 63, 80, 75, 0, 0, 0, 0, 0, 0);
        upTo("edition", 3, 99, 80, 75, 0, 0, 0, 0, 0, 0);
    }

    private static void manner() {
        Due.sentence("MANNER (0, or 1 if needs are asked first; 2 more if it is signed)");
        int[] least = {80, 75, 0, 0, 0, 0, 0, 0};
        for (int b = 0; b <= 255; b++) {
            int[] bytes = Crafts.summed(with(least, 4, b));
            place("without a SIGN " + b, b < 2 ? RIGHT : b < 4 ? 12 : 4, bytes);
            place("with a SIGN " + b, b < 2 ? 12 : b < 4 ? RIGHT : 4, Crafts.signed(9, bytes));
        }
    }

    private static int[] headWithNeeds(int many) {
        int[] bytes = {80, 75, 0, 0, 0, many};
        for (int i = 0; i < many; i++) {
            bytes = Crafts.join(bytes, 10 + i, i, i % 2);
        }
        return Crafts.join(bytes, 0, 0);
    }

    private static void needCount() {
        Due.sentence("how many NEEDS (0 .. 4)");
        for (int many = 0; many <= 4; many++) {
            summed(many + " needs", RIGHT, headWithNeeds(many));
        }
        summed("5 needs", 5, headWithNeeds(5));
        for (int many = 5; many <= 255; many++) {
            summed(many + " needs", 5, 80, 75, 0, 0, 0, many, 0, 0);
        }
    }

    private static void needBytes() {
        Due.sentence("of each its NAME, its EDITION, 1 if just that EDITION will do, else 0");
        int[] two = {80, 75, 0, 0, 0, 2, 63, 5, 1, 62, 6, 0, 0, 0};
        for (int b = 0; b <= 255; b++) {
            summed("first name " + b, b == 62 ? 9 : b <= 63 ? RIGHT : 6, with(two, 6, b));
            summed("second name " + b, b >= 63 ? 9 : RIGHT, with(two, 9, b));
        }
        upTo("first edition", 7, 99, two);
        upTo("first exactness", 8, 1, two);
        upTo("second edition", 10, 99, two);
        upTo("second exactness", 11, 1, two);
    }

    private static void needNameTwice() {
        Due.sentence("no NAME twice: the NAME of a NEED that came already");
        int[] four = headWithNeeds(4);
        for (int i = 0; i < 4; i++) {
            for (int j = i + 1; j < 4; j++) {
                summed("need " + j + " as " + i, 6 + 3 * j, with(four, 6 + 3 * j, 10 + i));
            }
        }
        summed("name 0 twice", 9, 80, 75, 0, 0, 0, 2, 0, 1, 1, 0, 2, 0, 0, 0);
        summed("name 63 twice", 9, 80, 75, 0, 0, 0, 2, 63, 1, 1, 63, 2, 0, 0, 0);
        summed("the pack's own name is none", RIGHT, 80, 75, 7, 0, 0, 1, 7, 0, 0, 0, 0);
        place("twice where the bytes end", 9, 80, 75, 0, 0, 0, 2, 5, 1, 1, 5);
    }

    private static int[] headWithSeals(int many) {
        int[] bytes = {80, 75, 0, 0, 0, 0, many};
        for (int i = 0; i < many; i++) {
            bytes = Crafts.join(bytes, 15 - i);
        }
        return Crafts.join(bytes, 0);
    }

    private static void sealCount() {
        Due.sentence("how many SEALS (0 .. 4)");
        for (int many = 0; many <= 4; many++) {
            summed(many + " seals", RIGHT, headWithSeals(many));
        }
        summed("5 seals", 6, headWithSeals(5));
        for (int many = 5; many <= 255; many++) {
            summed(many + " seals", 6, 80, 75, 0, 0, 0, 0, many, 0);
        }
    }

    private static void sealGroups() {
        Due.sentence("each a GROUP (0 .. 15)");
        upTo("group", 7, 15, 80, 75, 0, 0, 0, 0, 1, 0, 0);
        int[] four = {80, 75, 0, 0, 0, 0, 4, 0, 1, 2, 3, 0};
        for (int b = 0; b <= 255; b++) {
            summed("fourth group " + b, b >= 3 && b <= 15 ? RIGHT : 10, with(four, 10, b));
        }
    }

    private static void sealTwice() {
        Due.sentence("none twice: a GROUP that came already");
        int[] four = headWithSeals(4);
        for (int i = 0; i < 4; i++) {
            for (int j = i + 1; j < 4; j++) {
                summed("seal " + j + " as " + i, 7 + j, with(four, 7 + j, 15 - i));
            }
        }
        summed("group 0 twice", 8, 80, 75, 0, 0, 0, 0, 2, 0, 0, 0);
        place("twice where the bytes end", 8, 80, 75, 0, 0, 0, 0, 2, 4, 4);
    }

    private static int[] headWithRows(int many) {
        int[] bytes = {80, 75, 0, 0, 0, 0, 0, many};
        for (int r = 0; r < many; r++) {
            bytes = Crafts.join(bytes, 255 - r, r % 3, 0, 0, 0, 0);
        }
        return bytes;
    }

    private static void rowCount() {
        Due.sentence("how many ROWS (0 .. 8)");
        for (int many = 0; many <= 8; many++) {
            summed(many + " rows", RIGHT, headWithRows(many));
        }
        summed("9 rows", 7, headWithRows(9));
        for (int many = 9; many <= 255; many++) {
            summed(many + " rows", 7, 80, 75, 0, 0, 0, 0, 0, many);
        }
    }

    private static void rowKeys() {
        Due.sentence("of each its KEY (0 .. 255)");
        upTo("key", 8, 255, headWithRows(1));
    }

    private static void rowKeyTwice() {
        Due.sentence("no KEY twice: a KEY that came already");
        int[] eight = headWithRows(8);
        for (int i = 0; i < 8; i++) {
            for (int j = i + 1; j < 8; j++) {
                summed("row " + j + " as " + i, 8 + 6 * j, with(eight, 8 + 6 * j, 255 - i));
            }
        }
        summed("key 0 twice", 14, 80, 75, 0, 0, 0, 0, 0, 2, 0, 0, 0, 0, 0, 0, 0, 0, 0, 0, 0, 0);
        place("twice where the bytes end", 14, 80, 75, 0, 0, 0, 0, 0, 2, 9, 0, 0, 0, 0, 0, 9);
    }

    private static void rowPackings() {
        Due.sentence("its PACKING (0 .. 2)");
        upTo("packing", 9, 2, headWithRows(1));
        upTo("packing of the eighth row", 8 + 6 * 7 + 1, 2, headWithRows(8));
    }

    private static void rowLengths() {
        Due.sentence("its LENGTH (two bytes, the higher first; 0 .. 120)");
        int[] one = headWithRows(1);
        for (int b = 0; b <= 255; b++) {
            summed("higher byte " + b, b == 0 ? RIGHT : 10, with(one, 10, b));
            // SIZE is 0, so a LENGTH that may be is found lacking where the page's bytes begin.
            summed("lower byte " + b, b == 0 ? RIGHT : b <= 120 ? 14 : 11, with(one, 11, b));
        }
        row("120 bytes", RIGHT, 0, 120, 120, new int[120]);
        row("121 bytes", 11, 0, 121, 121, new int[121]);
    }

    private static void rowSizes() {
        Due.sentence("its SIZE (two bytes, likewise; 0 .. 250)");
        int[] one = headWithRows(1);
        for (int b = 0; b <= 255; b++) {
            summed("higher byte " + b, b == 0 ? RIGHT : 12, with(one, 12, b));
            summed("lower byte " + b, b == 0 ? RIGHT : b <= 250 ? 14 : 13, with(one, 13, b));
        }
        int[] pairs = new int[251];
        for (int i = 0; i < 250; i += 2) {
            pairs[i] = 1;
        }
        row("240 bytes are the most of a page", RIGHT, 1, 120, 240, Arrays.copyOf(pairs, 240));
        row("250 bytes may be, behind 240 the page lacks none", 14 + 240, 1, 120, 250, Arrays.copyOf(pairs, 250));
        row("251 bytes may not be", 13, 1, 120, 251, pairs);
    }

    private static void plainSizes() {
        Due.sentence("by PACKING 0: where its bytes begin (be there one or not), if SIZE isn't LENGTH");
        row("0 of 0", RIGHT, 0, 0, 0);
        row("1 of 1", RIGHT, 0, 1, 1, 255);
        row("1 of 0", 14, 0, 0, 1, 255);
        row("0 of 1", 14, 0, 1, 0);
        row("3 of 4", 14, 0, 4, 3, 1, 2, 3);
        row("4 of 3", 14, 0, 3, 4, 1, 2, 3, 4);
        row("119 of 120", 14, 0, 120, 119, new int[119]);
        row("121 of 120", 14, 0, 120, 121, new int[121]);
        place("no byte is there", 14, 80, 75, 0, 0, 0, 0, 0, 1, 7, 0, 0, 1, 0, 2);
        place("no byte is there, and none wanted", 14, 80, 75, 0, 0, 0, 0, 0, 1, 7, 0, 0, 1, 0, 0);
        int[] twoRows = {80, 75, 0, 0, 0, 0, 0, 2, 7, 0, 0, 2, 0, 2, 8, 0, 0, 1, 0, 2, 5, 6, 7, 8};
        summed("the second row's bytes begin behind the first's", 22, twoRows);
        place("no byte of the second row is there", 22, Arrays.copyOf(twoRows, 22));
        place("nor all of the first", 21, Arrays.copyOf(twoRows, 21));
    }

    private static void pairsOften() {
        Due.sentence("1: how often, if that is 0, above what the page lacks");
        for (int b = 0; b <= 255; b++) {
            int due = b == 0 ? 14 : b < 120 ? 16 : b == 120 ? RIGHT : 14;
            row("first of 120: " + b, due, 1, 120, 2, b, 9);
        }
        for (int b = 0; b <= 255; b++) {
            row("the last one of 5: " + b, b == 1 ? RIGHT : 16, 1, 5, 4, 4, 9, b, 9);
        }
        row("0 in the middle", 16, 1, 5, 6, 4, 9, 0, 9, 1, 9);
        row("a page of nothing lacks none", 14, 1, 0, 2, 1, 9);
        row("a full page lacks none", 16, 1, 3, 4, 3, 9, 1, 9);
        row("all 255 values of the byte", RIGHT, 1, 2, 4, 1, 0, 1, 255);
        place("no byte for how often", 16, 80, 75, 0, 0, 0, 0, 0, 1, 7, 1, 0, 3, 0, 4, 2, 9);
        place("no byte behind how often", 17, 80, 75, 0, 0, 0, 0, 0, 1, 7, 1, 0, 3, 0, 4, 2, 9, 1);
    }

    private static void pairsLastOfSize() {
        Due.sentence("1: how often, if that is the last of SIZE bytes");
        row("the only one", 14, 1, 1, 1, 1, 9);
        row("the third of three", 16, 1, 3, 3, 2, 9, 1, 9);
        row("the third of three, of a page that is full", 16, 1, 2, 3, 2, 9, 1);
        row("the fourth of four isn't", RIGHT, 1, 3, 4, 2, 9, 1, 9);
        place("the third of three, where the bytes end", 16, 80, 75, 0, 0, 0, 0, 0, 1, 7, 1, 0, 3, 0, 3, 2, 9, 1);
    }

    private static void pairsLacking() {
        Due.sentence("by 1 and 2 the place behind the SIZE bytes, if the page lacks some then");
        row("1 of 1 lacks without bytes", 14, 1, 1, 0);
        row("120 of 120 lack without bytes", 14, 1, 120, 0);
        row("1 of 3 lacks", 16, 1, 3, 2, 2, 9);
        row("2 of 3 lack, though a pair follows", 16, 1, 3, 2, 1, 9, 2, 9);
        row("none lacks", RIGHT, 1, 3, 2, 3, 9);
        row("none lacks of nothing", RIGHT, 1, 0, 0);
        place("where the bytes end", 16, 80, 75, 0, 0, 0, 0, 0, 1, 7, 1, 0, 3, 0, 2, 2, 9);
        int[] two = {80, 75, 0, 0, 0, 0, 0, 2, 7, 1, 0, 3, 0, 2, 8, 1, 0, 1, 0, 2, 2, 9, 1, 9};
        summed("ahead of the next row's bytes", 22, two);
        summed("of the second row", 24, with(with(two, 11, 2), 17, 2));
    }

    private static void opsAsTheyAre() {
        Due.sentence("2: n, if it stands for more bytes than the page lacks (n below 128: n + 1 bytes as they are)");
        row("1 of 1", RIGHT, 2, 1, 2, 0, 255);
        row("2 of 1", 14, 2, 1, 3, 1, 255, 255);
        row("1 of 0", 14, 2, 0, 2, 0, 255);
        row("the last one of 3", RIGHT, 2, 3, 5, 1, 8, 9, 0, 7);
        row("two, where one lacks", 17, 2, 3, 6, 1, 8, 9, 1, 7, 7);
        row("one, where none lacks", 17, 2, 2, 5, 1, 8, 9, 0, 7);
        row("120 of 120", RIGHT, 2, 120, 121, Crafts.join(new int[] {119}, new int[120]));
        row("121 of 120", 14, 2, 120, 122, Crafts.join(new int[] {120}, new int[121]));
        row("120 of 119", 14, 2, 119, 121, Crafts.join(new int[] {119}, new int[120]));
        row("128, the most, of 120", 14, 2, 120, 129, Crafts.join(new int[] {127}, new int[128]));
    }

    private static void opsAsTheyAreOfSize() {
        Due.sentence("2: n, if it stands for more bytes behind it than there are of SIZE");
        row("1 behind, 1 of SIZE", RIGHT, 2, 1, 2, 0, 9);
        row("1 behind, 0 of SIZE", 14, 2, 1, 1, 0, 9);
        row("3 behind, 3 of SIZE", RIGHT, 2, 3, 4, 2, 7, 8, 9);
        row("3 behind, 2 of SIZE", 14, 2, 3, 3, 2, 7, 8, 9);
        row("the second one: 2 behind, 1 of SIZE", 16, 2, 3, 4, 0, 7, 1, 8, 9);
        row("the second one: 2 behind, 2 of SIZE", RIGHT, 2, 3, 5, 0, 7, 1, 8, 9);
        place("2 behind, and the bytes end", 16, 80, 75, 0, 0, 0, 0, 0, 1, 7, 2, 0, 2, 0, 3, 1, 7);
        place("no byte for n", 14, 80, 75, 0, 0, 0, 0, 0, 1, 7, 2, 0, 2, 0, 3);
    }

    private static void opsCopies() {
        Due.sentence("2: n of 128 and more: n - 125 bytes; if it stands for more bytes than the page lacks");
        row("3 of 3", RIGHT, 2, 4, 4, 0, 9, 128, 1);
        row("3 of 2", 16, 2, 3, 4, 0, 9, 128, 1);
        row("3 of 0", 16, 2, 1, 4, 0, 9, 128, 1);
        row("4 of 4", RIGHT, 2, 5, 4, 0, 9, 129, 1);
        row("4 of 3", 16, 2, 4, 4, 0, 9, 129, 1);
        row("119 of 119", RIGHT, 2, 120, 4, 0, 9, 244, 1);
        row("120 of 119", 16, 2, 120, 4, 0, 9, 245, 1);
        row("130, the most, of 119", 16, 2, 120, 4, 0, 9, 255, 1);
        for (int n = 128; n <= 255; n++) {
            int length = n - 125 + 1;
            row("n " + n, length <= 120 ? RIGHT : 11, 2, length, 4, 0, 9, n, 1);
            if (length <= 119) {
                row("n " + n + ", and one lacks", 18, 2, length + 1, 4, 0, 9, n, 1);
            }
        }
    }

    private static void opsCopyLastOfSize() {
        Due.sentence("2: n of 128 and more: behind it a byte d; if it stands for more bytes behind it than SIZE has");
        row("n is the last of SIZE", 16, 2, 4, 3, 0, 9, 128, 1);
        row("n is the only one of SIZE", 14, 2, 3, 1, 128, 1);
        row("d is the last of SIZE", RIGHT, 2, 4, 4, 0, 9, 128, 1);
        place("n is the last of SIZE and of the bytes", 16, 80, 75, 0, 0, 0, 0, 0, 1, 7, 2, 0, 4, 0, 3, 0, 9, 128);
        place("no byte for d", 17, 80, 75, 0, 0, 0, 0, 0, 1, 7, 2, 0, 4, 0, 4, 0, 9, 128);
    }

    private static void opsDistance() {
        Due.sentence("2: d, if it is 0 or above the bytes that the page has");
        for (int d = 0; d <= 255; d++) {
            row("a page of 2: " + d, d == 1 || d == 2 ? RIGHT : 18, 2, 5, 5, 1, 8, 9, 128, d);
        }
        row("an empty page", 15, 2, 3, 2, 128, 1);
        row("an empty page, d 0", 15, 2, 3, 2, 128, 0);
        int[] most = Crafts.join(new int[] {116}, new int[117]);
        row("a page of 117: 117", RIGHT, 2, 120, 120, Crafts.join(most, 128, 117));
        row("a page of 117: 118", 14 + 119, 2, 120, 120, Crafts.join(most, 128, 118));
        row("what a copy made counts", RIGHT, 2, 7, 6, 0, 9, 128, 1, 128, 4);
        row("what a copy will make doesn't", 19, 2, 7, 6, 0, 9, 128, 1, 128, 5);
    }

    private static void opsLacking() {
        Due.sentence("by 1 and 2 the place behind the SIZE bytes, if the page lacks some then");
        row("1 of 1 lacks without bytes", 14, 2, 1, 0);
        row("none lacks of nothing", RIGHT, 2, 0, 0);
        row("1 of 2 lacks", 16, 2, 2, 2, 0, 9);
        row("1 of 2 lacks, though an op follows", 16, 2, 2, 2, 0, 9, 0, 9);
        row("1 of 5 lacks behind a copy", 18, 2, 5, 4, 0, 9, 128, 1);
        place("where the bytes end", 16, 80, 75, 0, 0, 0, 0, 0, 1, 7, 2, 0, 2, 0, 2, 0, 9);
    }

    private static void sumBytes() {
        Due.sentence("of the SUM the first byte that is another one");
        int[] ahead = {80, 75, 1, 2, 0, 0, 0, 0};
        int[] good = Crafts.summed(ahead);
        for (int i = 8; i < 12; i++) {
            for (int mask = 1; mask <= 255; mask++) {
                place("byte " + i, i, with(good, i, good[i] ^ mask));
            }
            for (int j = i + 1; j < 12; j++) {
                place("bytes " + i + " and " + j, i, with(with(good, i, good[i] ^ 1), j, good[j] ^ 1));
            }
        }
        for (int start : new int[] {0, 2, -1}) {
            int[] other = Crafts.join(ahead, Crafts.four(Crafts.sum(start, ahead, 8)));
            int first = 8;
            while (other[first] == good[first]) {
                first++;
            }
            place("from " + start, first, other);
        }
        for (int n = 8; n < 12; n++) {
            place("cut at " + n, n, Arrays.copyOf(good, n));
        }
    }

    private static void signBytes() {
        Due.sentence("if it is signed the SIGN, four bytes (any)");
        int[] good = Crafts.summed(80, 75, 1, 2, 2, 0, 0, 0);
        place("four bytes of 0", RIGHT, Crafts.join(good, 0, 0, 0, 0));
        place("four bytes of 255", RIGHT, Crafts.join(good, 255, 255, 255, 255));
        place("of any secret", RIGHT, Crafts.signed(77, good));
        for (int n = 0; n < 4; n++) {
            place(n + " bytes", 12 + n, Crafts.join(good, new int[n]));
        }
        place("five bytes", 16, Crafts.join(good, 0, 0, 0, 0, 0));
    }

    private static int[] manifold() {
        int[] head = {80, 75, 1, 2, 3, 2, 5, 6, 1, 7, 8, 0, 2, 3, 4, 4,
            10, 0, 0, 2, 0, 2, 11, 1, 0, 4, 0, 4, 12, 2, 0, 5, 0, 5, 13, 0, 0, 0, 0, 0};
        int[] body = {8, 9, 3, 5, 1, 6, 1, 1, 2, 128, 2};
        return Crafts.signed(3, Crafts.summed(Crafts.join(head, body)));
    }

    private static void noByteThere() {
        Due.sentence("Where a byte is wanted and none is there, that is the place.");
        int[] whole = manifold();
        place("whole", RIGHT, whole);
        for (int n = 1; n < whole.length; n++) {
            place("cut at " + n, n, Arrays.copyOf(whole, n));
        }
    }

    private static void bytesBehindTheEnd() {
        Due.sentence("If more bytes stand behind the end, it is the first of these.");
        int[] signed = manifold();
        place("one behind the SIGN", signed.length, Crafts.join(signed, 0));
        place("many behind the SIGN", signed.length, Crafts.join(signed, 80, 75, 0, 0, 0));
        int[] plain = Crafts.summed(80, 75, 0, 0, 0, 0, 0, 0);
        place("one behind the SUM", 12, Crafts.join(plain, 0));
        place("a SIGN where none is due", 12, Crafts.signed(1, plain));
        place("another pack behind it", 12, Crafts.join(plain, plain));
    }

    private static void firstOfSeveral() {
        Due.sentence("it is WRONG at the first place where something is other than THE FORM says");
        int[] bad = {81, 76, 64, 100, 4, 5, 5, 9};
        int[] good = {80, 75, 0, 0, 0, 0, 0, 0};
        int[] now = bad.clone();
        for (int i = 0; i < 8; i++) {
            place("wrong from " + i + " on", i, now);
            summed("wrong from " + i + " on, summed", i, now);
            now[i] = good[i];
        }
        summed("a name twice ahead of an edition", 9, 80, 75, 0, 0, 0, 2, 4, 0, 0, 4, 100, 2, 5, 9);
        summed("a key's packing ahead of a key twice", 9, 80, 75, 0, 0, 0, 0, 0, 2,
            4, 3, 0, 0, 0, 0, 4, 0, 0, 0, 0, 0);
        summed("a head of a row ahead of the bytes of one", 15, 80, 75, 0, 0, 0, 0, 0, 2,
            4, 0, 0, 1, 0, 2, 5, 3, 0, 0, 0, 0, 1, 1);
        summed("n ahead of d", 16, 80, 75, 0, 0, 0, 0, 0, 1, 7, 2, 0, 3, 0, 4, 0, 9, 128, 0);
        row("d ahead of what lacks", 17, 2, 5, 4, 0, 9, 128, 0);
        int[] sum = Crafts.summed(good);
        place("the SUM ahead of bytes behind", 8, Crafts.join(with(sum, 8, sum[8] ^ 1), 0));
    }

    private static void ownWritingsAreRight() {
        Due.sentence("13: -1 if the bytes are a pack: what a draft at its limits is written as");
        PackPost x = new PackPost();
        for (int packing = 0; packing < 3; packing++) {
            for (int secret = 0; secret < 2; secret++) {
                x.draft(63, 99, 1);
                for (int i = 0; i < 4; i++) {
                    x.need(63 - i, 99, i % 2 == 0);
                    x.seal(15 - i);
                }
                for (int r = 0; r < 8; r++) {
                    x.row(255 - r, packing);
                    x.add(r, r, 255, -1, -1);
                    x.again(3, r < 3 ? 117 : r);
                }
                int p = x.pack(secret);
                Due.is("number", p, packing * 2 + secret);
                Due.is("packing " + packing + ", secret " + secret, x.check(p), RIGHT);
            }
        }
    }
}
