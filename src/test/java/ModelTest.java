import java.util.ArrayList;
import java.util.Arrays;
import java.util.List;
import java.util.Random;

/** Seeded runs of calls on the class and on the Model: each answer is held against the other. */
public final class ModelTest {
    private static final int CALLS = 512;
    private static final int RUNS = 4000;
    private static final int CRAFTED = 6000;
    private static final int[] EDGES = {Integer.MIN_VALUE, -2, -1, 0, 1, 2, 3, 4, 7, 8, 9, 11, 12, 15, 16, 63, 64,
        87, 88, 89, 99, 100, 101, 120, 121, 128, 250, 251, 255, 256, 699, 700, 701, Integer.MAX_VALUE};
    private static final String[] NAMES = {"draft", "need", "seal", "row", "add", "again", "pack", "length", "octet",
        "spoil", "trim", "check", "signer", "parts", "load", "tape", "bend", "take", "book", "drop", "open", "why",
        "entry", "close", "reopen", "overlay", "find", "path", "page", "read", "edition", "needed"};
    private static final int[] COUNTS = {3, 3, 1, 2, 5, 2, 1, 1, 2, 3, 2, 1, 2, 2, 3, 1, 2, 0, 2, 1, 2, 0,
        2, 1, 1, 2, 2, 3, 2, 3, 2, 2};

    private final Random random;
    private final String run;
    private final PackPost post = new PackPost();
    private final Model model = new Model();
    private final List<String> told = new ArrayList<>();
    private int left = CALLS;

    private ModelTest(String run, long seed) {
        this.run = run;
        random = new Random(seed);
    }

    public static void main(String[] args) {
        int[] seen = new int[NAMES.length * 12];
        for (int n = 0; n < RUNS && !Due.anyWrong(); n++) {
            ModelTest test = new ModelTest("run " + n, 1000 + n);
            test.counted = seen;
            if (n % 2 == 0) {
                test.runOfCalls();
            } else {
                test.runOnTheShelf();
            }
        }
        for (int n = 0; n < CRAFTED && !Due.anyWrong(); n++) {
            ModelTest test = new ModelTest("crafted " + n, 900000 + n);
            test.counted = seen;
            test.craftedPack();
        }
        everyRefusalCame(seen);
        Due.end("ModelTest");
    }

    // counted[name * 12 + k]: how often a call answered -k; k is 11 for answers of 0 and more.
    private int[] counted;

    /** Runs that never meet a refusal would hold nothing: each must have come. */
    private static void everyRefusalCame(int[] seen) {
        String[] due = {"draft 1", "need 1 2 3 4", "seal 1 2 3 4", "row 1 2 3 4", "add 1 2 3", "again 1 2 3",
            "pack 2 3", "length 1", "octet 1", "spoil 1", "trim 1", "check 1 2", "signer 1", "parts 1", "load 1",
            "tape 1", "bend 1", "take 2 3 4 9 10", "book 1", "drop 1", "open 1 3 5 6 7 8", "entry 1 2", "close 1 2",
            "reopen 1 2", "overlay 1 3 4", "find 1 2", "path 1", "page 1 2", "read 1", "edition 1", "needed 1"};
        for (String row : due) {
            String[] words = row.split(" ");
            int name = Arrays.asList(NAMES).indexOf(words[0]);
            Due.isTrue(words[0] + " was answered", seen[name * 12 + 11] > 100);
            for (int i = 1; i < words.length; i++) {
                Due.isTrue(words[0] + " -" + words[i] + " came", seen[name * 12 + Integer.parseInt(words[i])] > 20);
            }
        }
    }

    private int call(String name, int... a) {
        if (left == 0) {
            return 0;
        }
        left--;
        int got = onPost(name, a);
        int want = model.call(name, a);
        told.add(name + Arrays.toString(a) + " = " + want);
        counted[Arrays.asList(NAMES).indexOf(name) * 12 + (want < 0 ? -want : 11)]++;
        if (got != want) {
            System.out.println(String.join("\n", told));
            left = 0;
        }
        Due.is(run + ": " + name + Arrays.toString(a), got, want);
        return want;
    }

    private int onPost(String name, int... a) {
        return switch (name) {
            case "draft" -> post.draft(a[0], a[1], a[2]);
            case "need" -> post.need(a[0], a[1], a[2] != 0);
            case "seal" -> post.seal(a[0]);
            case "row" -> post.row(a[0], a[1]);
            case "add" -> post.add(a[0], a[1], a[2], a[3], a[4]);
            case "again" -> post.again(a[0], a[1]);
            case "pack" -> post.pack(a[0]);
            case "length" -> post.length(a[0]);
            case "octet" -> post.octet(a[0], a[1]);
            case "spoil" -> post.spoil(a[0], a[1], a[2]);
            case "trim" -> post.trim(a[0], a[1]);
            case "check" -> post.check(a[0]);
            case "signer" -> post.signer(a[0], a[1]);
            case "parts" -> post.parts(a[0], a[1]);
            case "load" -> post.load(a[0], a[1], a[2]);
            case "tape" -> post.tape(a[0]);
            case "bend" -> post.bend(a[0], a[1]);
            case "take" -> post.take();
            case "book" -> post.book(a[0], a[1]);
            case "drop" -> post.drop(a[0]);
            case "open" -> post.open(a[0], a[1]);
            case "why" -> post.why();
            case "entry" -> post.entry(a[0], a[1]);
            case "close" -> post.close(a[0]);
            case "reopen" -> post.reopen(a[0]);
            case "overlay" -> post.overlay(a[0], a[1]);
            case "find" -> post.find(a[0], a[1]);
            case "path" -> post.path(a[0], a[1], a[2]);
            case "page" -> post.page(a[0], a[1]);
            case "read" -> post.read(a[0], a[1], a[2]);
            case "edition" -> post.edition(a[0], a[1]);
            case "needed" -> post.needed(a[0], a[1]);
            default -> throw new IllegalArgumentException(name);
        };
    }

    private int below(int n) {
        return random.nextInt(n);
    }

    private int oneOf(int... of) {
        return of[below(of.length)];
    }

    private boolean in(int n) {
        return below(n) == 0;
    }

    private void runOfCalls() {
        while (left > 0) {
            switch (below(10)) {
                case 0, 1, 2 -> pileDraft();
                case 3 -> send();
                case 4 -> spoilAndMend();
                case 5 -> wildCall();
                default -> lookAround();
            }
        }
    }

    /** Small packs, so that most of the calls are left for a full shelf. */
    private void runOnTheShelf() {
        int names = 2 + below(6);
        while (left > 0) {
            if (model.packs.size() < 16 && in(3)) {
                smallDraft(names);
                call("open", model.packs.size() - 1, 0);
            } else if (in(20)) {
                call("open", below(16), 0);
            } else {
                lookAround();
            }
            if (in(20)) {
                call("why");
            }
        }
    }

    private void smallDraft(int names) {
        call("draft", below(names), below(3), below(2));
        for (int n = below(4); n > 0; n--) {
            call("need", below(names), 1 + below(3), in(5) ? 1 : 0);
        }
        if (in(4)) {
            call("seal", below(3));
            call("seal", below(6));
        }
        for (int n = 1 + below(3); n > 0; n--) {
            call("row", oneOf(below(12), below(96)), 0);
            call("add", below(256), below(256), -1, -1, -1);
        }
        call("pack", 0);
    }

    private void wildCall() {
        int n = below(NAMES.length);
        int[] a = new int[COUNTS[n]];
        for (int i = 0; i < a.length; i++) {
            a[i] = in(2) ? below(20) : oneOf(EDGES);
        }
        call(NAMES[n], a);
    }

    private void pileDraft() {
        call("draft", below(5), below(4), below(2));
        for (int n = below(4) * below(2) + (in(9) ? 3 : 0); n > 0; n--) {
            call("need", below(5), below(4), below(2));
        }
        for (int n = in(3) ? below(6) : 0; n > 0; n--) {
            call("seal", below(6));
        }
        for (int n = in(6) ? below(10) : below(4); n > 0; n--) {
            call("row", oneOf(below(12), below(96)), below(3));
            for (int m = below(4); m > 0; m--) {
                int most = oneOf(2, 4, 256);
                call("add", below(most), in(5) ? -1 : below(most), in(5) ? -1 : below(most), below(most), below(most));
                if (in(2)) {
                    call("again", 1 + below(6), in(2) ? below(12) : below(121));
                }
            }
        }
        if (in(8)) {
            return;
        }
        int secret = in(3) ? 1 + below(3) : 0;
        int p = call("pack", secret);
        if (p >= 0 && !in(4)) {
            call("open", p, in(2) ? secret : 0);
            call("why");
        }
    }

    private void send() {
        if (model.packs.isEmpty()) {
            return;
        }
        int p = below(model.packs.size());
        int bytes = model.packs.get(p).size();
        int size = in(2) ? 8 + below(93) : Math.max(8, Math.min(100, bytes / (1 + below(9)) + below(4)));
        int many = call("parts", p, size);
        int first = below(Math.max(many, 1));
        boolean all = many <= 10 && !in(4);
        for (int k = 0; k < (all ? many : Math.min(many, 3)); k++) {
            call("load", p, in(12) ? size + 1 : size, (first + k) % many);
            if (in(12)) {
                bendTape();
            }
            call("take");
            if (in(12)) {
                call("take");
            }
            call("book", p, oneOf(0, 1, 2 + k));
        }
        if (in(9)) {
            call("drop", p);
        }
    }

    private void bendTape() {
        if (model.tape.isEmpty()) {
            return;
        }
        int k = oneOf(0, 1, 2, 3, 4, model.tape.size() - 1);
        int mask = model.tape.get(k) ^ oneOf(0, 1, 2, 3, 15, 16, 88, 89, 255);
        call("bend", k, mask);
        if (in(2)) {
            return;
        }
        int n = model.tape.size();
        int[] bytes = model.tape.stream().mapToInt(b -> b).toArray();
        int[] due = Crafts.four(Crafts.sum(2, bytes, n - 4));
        for (int i = 0; i < 4; i++) {
            call("bend", n - 4 + i, due[i] ^ bytes[n - 4 + i]);
        }
    }

    private void spoilAndMend() {
        if (model.packs.isEmpty()) {
            return;
        }
        int p = below(model.packs.size());
        int n = model.packs.get(p).size();
        if (in(6)) {
            call("trim", p, Math.max(1, n - below(6)));
        } else {
            int i = in(2) ? below(Math.min(n, 40)) : below(n);
            int old = model.packs.get(p).get(i);
            call("spoil", p, i, old ^ likelyByte(old));
        }
        int[] bytes = model.packs.get(p).stream().mapToInt(b -> b).toArray();
        int sumPlace = bytes.length - (bytes.length > 8 && bytes[4] >= 2 ? 8 : 4);
        if (sumPlace > 0 && !in(3)) {
            int[] due = Crafts.four(Crafts.sum(1, bytes, sumPlace));
            for (int i = 0; i < 4; i++) {
                if (due[i] != bytes[sumPlace + i]) {
                    call("spoil", p, sumPlace + i, due[i] ^ bytes[sumPlace + i]);
                }
            }
        }
        call("check", p);
        call("signer", p, below(4));
        if (in(2)) {
            call("open", p, in(3) ? below(4) : 0);
            call("why");
        }
    }

    private int likelyByte(int old) {
        return oneOf(old + 1, old + 255, 0, 1, 2, 3, 4, 5, 8, 9, 15, 16, 63, 64, 99, 100, 120, 121, 127, 128, 250, 251,
            below(256)) & 255;
    }

    private void lookAround() {
        int e = below(in(9) ? 13 : 1 + model.entryCount());
        int key = oneOf(below(12), below(96));
        switch (below(12)) {
            case 0 -> call("entry", e, below(13));
            case 1 -> call(in(2) ? "close" : "reopen", e);
            case 2 -> call("overlay", below(3), e);
            case 3, 4 -> call("find", e, key);
            case 5 -> {
                for (int i = 0; i < 5; i++) {
                    call("path", e, key, i);
                }
            }
            case 6 -> call("page", e, key);
            case 7, 8 -> call("read", e, key, in(2) ? below(8) : below(121));
            case 9 -> call("edition", below(6), below(5));
            case 10 -> call("needed", e, below(4));
            default -> {
                int p = below(16);
                call("length", p);
                call("octet", p, below(200));
                call("tape", below(110));
                call("check", p);
                call("signer", p, below(4));
            }
        }
    }

    /** A row of bytes as no draft writes it, right or nearly right, checked and opened. */
    private void craftedPack() {
        List<Integer> head = new ArrayList<>(List.of(80, 75, below(64), below(100), below(4), 0));
        int seals = in(4) ? below(5) : 0;
        head.add(seals);
        for (int i = 0; i < seals; i++) {
            head.add((i * 5 + below(2)) & 15);
        }
        int rows = 1 + below(3);
        head.add(rows);
        List<Integer> body = new ArrayList<>();
        List<Integer> keys = new ArrayList<>();
        for (int r = 0; r < rows; r++) {
            int packing = below(3);
            List<Integer> packed = new ArrayList<>();
            int length = randomPage(packing, packed) + (in(9) ? oneOf(1, -1) : 0);
            int size = packed.size() + (in(9) ? oneOf(1, -1) : 0);
            int key = in(9) ? 0 : r * 16 + below(16);
            keys.add(key);
            head.addAll(List.of(key, packing, 0, Math.max(length, 0), 0, Math.max(size, 0)));
            body.addAll(packed);
        }
        List<Integer> all = new ArrayList<>(head);
        all.addAll(body);
        if (in(3)) {
            int i = below(all.size());
            all.set(i, likelyByte(all.get(i)));
        }
        int[] bytes = Crafts.summed(all.stream().mapToInt(b -> b).toArray());
        if (bytes[4] >= 2) {
            bytes = Crafts.signed(5, bytes);
        }
        if (in(9)) {
            bytes = in(2) ? Crafts.join(bytes, 1) : Arrays.copyOf(bytes, 1 + below(bytes.length));
        }
        layOut(bytes);
        call("check", 0);
        call("signer", 0, 5);
        int e = call("open", 0, 0);
        call("why");
        for (int key : e == 0 ? keys : List.<Integer>of()) {
            for (int i = 0; i < 121 && call("read", 0, key, i) >= 0; i++) {
                call("find", 0, key);
            }
        }
    }

    private int randomPage(int packing, List<Integer> packed) {
        int length = 0;
        for (int n = below(4); n > 0; n--) {
            if (packing == 0) {
                packed.add(below(256));
                length++;
            } else if (packing == 1) {
                int often = 1 + below(5);
                packed.addAll(List.of(often, below(256)));
                length += often;
            } else if (length == 0 || in(2)) {
                int plain = 1 + below(4);
                packed.add(plain - 1);
                for (int i = 0; i < plain; i++) {
                    packed.add(below(256));
                }
                length += plain;
            } else {
                int copied = 3 + below(5);
                packed.addAll(List.of(copied + 125, in(9) ? length + below(2) : 1 + below(length)));
                length += copied;
            }
        }
        return length;
    }

    private void layOut(int[] bytes) {
        call("draft", 0, 0, 0);
        call("row", 0, 0);
        call("add", 0, -1, -1, -1, -1);
        call("again", 1, 119);
        call("pack", 0);
        call("trim", 0, bytes.length);
        for (int i = 0; i < bytes.length; i++) {
            int mask = bytes[i] ^ model.packs.get(0).get(i);
            if (mask != 0) {
                call("spoil", 0, i, mask);
            }
        }
    }
}
