import java.util.ArrayList;
import java.util.Collections;
import java.util.Comparator;
import java.util.HashSet;
import java.util.List;
import java.util.Set;
import java.util.TreeMap;
import java.util.TreeSet;

/**
 * The document written a second time, with the Java library and exceptions, to
 * be held against the class. It shares no code with it.
 */
final class Model {
    private static final class Refused extends RuntimeException {
        private static final long serialVersionUID = 1L;
        final int answer;

        Refused(int answer) {
            super(null, null, false, false);
            this.answer = answer;
        }
    }

    private record Need(int name, int edition, boolean exact) {
    }

    private record Row(int key, int packing, List<Integer> page) {
    }

    private static final class Leaf {
        int name;
        int edition;
        int manner;
        final List<Need> needs = new ArrayList<>();
        final List<Integer> seals = new ArrayList<>();
        final List<Row> rows = new ArrayList<>();

        List<Integer> page(int key) {
            for (Row row : rows) {
                if (row.key() == key) {
                    return row.page();
                }
            }
            return null;
        }

        Set<Integer> groups() {
            Set<Integer> groups = new TreeSet<>();
            rows.forEach(row -> groups.add(row.key() >> 4));
            return groups;
        }
    }

    private static final class Opened {
        Leaf leaf;
        int number;
        boolean closed;
        final List<Opened> met = new ArrayList<>();
        final Set<Opened> sees = new HashSet<>();
        final List<Opened> overlays = new ArrayList<>();
    }

    private static final class Sent {
        int many;
        final TreeMap<Integer, List<Integer>> came = new TreeMap<>();
    }

    private Leaf draft;
    final List<List<Integer>> packs = new ArrayList<>();
    List<Integer> tape = new ArrayList<>();
    private final List<Sent> books = new ArrayList<>();
    private final List<Opened> shelf = new ArrayList<>();
    private int why;

    Model() {
        for (int p = 0; p < 16; p++) {
            books.add(new Sent());
        }
    }

    int entryCount() {
        return shelf.size();
    }

    /** The answer of a call by its name; what the class has as booleans is 0 or 1 here. */
    int call(String name, int... a) {
        try {
            return switch (name) {
                case "draft" -> draft(a[0], a[1], a[2]);
                case "need" -> need(a[0], a[1], a[2] != 0);
                case "seal" -> seal(a[0]);
                case "row" -> row(a[0], a[1]);
                case "add" -> add(a);
                case "again" -> again(a[0], a[1]);
                case "pack" -> pack(a[0]);
                case "length" -> packOf(a[0]).size();
                case "octet" -> octet(a[0], a[1]);
                case "spoil" -> spoil(a[0], a[1], a[2]);
                case "trim" -> trim(a[0], a[1]);
                case "check" -> a[0] < 0 || a[0] >= packs.size() ? -2 : wrong(packs.get(a[0]));
                case "signer" -> signed(packOf(a[0]), a[1]) ? 1 : 0;
                case "parts" -> cut(a[0], a[1]).size();
                case "load" -> load(a[0], a[1], a[2]);
                case "tape" -> a[0] >= 0 && a[0] < tape.size() ? tape.get(a[0]) : -1;
                case "bend" -> bend(a[0], a[1]);
                case "take" -> take();
                case "book" -> book(a[0], a[1]);
                case "drop" -> drop(a[0]);
                case "open" -> open(a[0], a[1]);
                case "why" -> why;
                case "entry" -> entry(a[0], a[1]);
                case "close" -> close(a[0], true);
                case "reopen" -> close(a[0], false);
                case "overlay" -> overlay(a[0], a[1]);
                case "find" -> find(a[0], a[1]);
                case "path" -> path(a[0], a[1], a[2]);
                case "page" -> page(a[0], a[1]);
                case "read" -> read(a[0], a[1], a[2]);
                case "edition" -> edition(a[0], a[1]);
                case "needed" -> needed(a[0], a[1]);
                default -> throw new IllegalArgumentException(name);
            };
        } catch (Refused refused) {
            return refused.answer;
        }
    }

    private static void refuseIf(boolean refused, int answer) {
        if (refused) {
            throw new Refused(answer);
        }
    }

    private static void inside(int x, int least, int most) {
        refuseIf(x < least || x > most, PackPost.NUMBER);
    }

    private int draft(int name, int edition, int manner) {
        inside(name, 0, 63);
        inside(edition, 0, 99);
        inside(manner, 0, 1);
        draft = new Leaf();
        draft.name = name;
        draft.edition = edition;
        draft.manner = manner;
        return 1;
    }

    private int need(int name, int edition, boolean exact) {
        inside(name, 0, 63);
        inside(edition, 0, 99);
        refuseIf(draft == null, PackPost.STATE);
        refuseIf(draft.needs.stream().anyMatch(n -> n.name() == name), PackPost.TWICE);
        refuseIf(draft.needs.size() == 4, PackPost.FULL);
        draft.needs.add(new Need(name, edition, exact));
        return draft.needs.size();
    }

    private int seal(int group) {
        inside(group, 0, 15);
        refuseIf(draft == null, PackPost.STATE);
        refuseIf(draft.seals.contains(group), PackPost.TWICE);
        refuseIf(draft.seals.size() == 4, PackPost.FULL);
        draft.seals.add(group);
        return draft.seals.size();
    }

    private int row(int key, int packing) {
        inside(key, 0, 255);
        inside(packing, 0, 2);
        refuseIf(draft == null, PackPost.STATE);
        refuseIf(draft.page(key) != null, PackPost.TWICE);
        refuseIf(draft.rows.size() == 8, PackPost.FULL);
        draft.rows.add(new Row(key, packing, new ArrayList<>()));
        return draft.rows.size();
    }

    private List<Integer> latestPage() {
        refuseIf(draft == null || draft.rows.isEmpty(), PackPost.STATE);
        return draft.rows.get(draft.rows.size() - 1).page();
    }

    private int add(int[] given) {
        List<Integer> more = new ArrayList<>();
        for (int b : given) {
            if (b == -1) {
                break;
            }
            inside(b, 0, 255);
            more.add(b);
        }
        List<Integer> page = latestPage();
        refuseIf(page.size() + more.size() > 120, PackPost.FULL);
        page.addAll(more);
        return page.size();
    }

    private int again(int back, int n) {
        inside(n, 0, 120);
        inside(back, 1, 120);
        List<Integer> page = latestPage();
        refuseIf(page.size() < back, PackPost.STATE);
        refuseIf(page.size() + n > 120, PackPost.FULL);
        for (int i = 0; i < n; i++) {
            page.add(page.get(page.size() - back));
        }
        return page.size();
    }

    private static void pushSum(List<Integer> bytes, int start) {
        int s = start;
        for (int b : bytes) {
            s = Integer.rotateLeft(s ^ b, 11) * 16777619;
        }
        for (int shift = 24; shift >= 0; shift -= 8) {
            bytes.add(s >>> shift & 255);
        }
    }

    private int pack(int secret) {
        refuseIf(draft == null, PackPost.STATE);
        refuseIf(packs.size() == 16, PackPost.FULL);
        List<Integer> out = new ArrayList<>(List.of(80, 75, draft.name, draft.edition,
            draft.manner | (secret == 0 ? 0 : 2), draft.needs.size()));
        draft.needs.forEach(n -> out.addAll(List.of(n.name(), n.edition(), n.exact() ? 1 : 0)));
        out.add(draft.seals.size());
        out.addAll(draft.seals);
        out.add(draft.rows.size());
        List<Integer> body = new ArrayList<>();
        for (Row row : draft.rows) {
            List<Integer> packed = switch (row.packing()) {
                case 0 -> row.page();
                case 1 -> pairs(row.page());
                default -> ops(row.page());
            };
            out.addAll(List.of(row.key(), row.packing(), 0, row.page().size(), 0, packed.size()));
            body.addAll(packed);
        }
        out.addAll(body);
        pushSum(out, 1);
        if (secret != 0) {
            pushSum(out, secret);
        }
        refuseIf(out.size() > 700, PackPost.FULL);
        draft = null;
        packs.add(out);
        return packs.size() - 1;
    }

    private static List<Integer> pairs(List<Integer> page) {
        List<Integer> out = new ArrayList<>();
        int at = 0;
        while (at < page.size()) {
            int end = at;
            while (end < page.size() && page.get(end).equals(page.get(at))) {
                end++;
            }
            out.add(end - at);
            out.add(page.get(at));
            at = end;
        }
        return out;
    }

    private static List<Integer> ops(List<Integer> page) {
        List<Integer> out = new ArrayList<>();
        List<Integer> plain = new ArrayList<>();
        int at = 0;
        while (at <= page.size()) {
            int best = 0;
            int from = 0;
            // From far to near, so that a later one of the same length is nearer.
            for (int start = 0; start < at && at < page.size(); start++) {
                int n = 0;
                while (at + n < page.size() && page.get(start + n).equals(page.get(at + n))) {
                    n++;
                }
                if (n >= best) {
                    best = n;
                    from = start;
                }
            }
            if ((best >= 3 || at == page.size()) && !plain.isEmpty()) {
                out.add(plain.size() - 1);
                out.addAll(plain);
                plain.clear();
            }
            if (best >= 3) {
                out.add(best + 125);
                out.add(at - from);
                at += best;
            } else {
                if (at < page.size()) {
                    plain.add(page.get(at));
                }
                at++;
            }
        }
        return out;
    }

    private List<Integer> packOf(int p) {
        inside(p, 0, packs.size() - 1);
        return packs.get(p);
    }

    private int octet(int p, int i) {
        List<Integer> bytes = packOf(p);
        inside(i, 0, bytes.size() - 1);
        return bytes.get(i);
    }

    private int spoil(int p, int i, int mask) {
        octet(p, i);
        inside(mask, 1, 255);
        packs.get(p).set(i, packs.get(p).get(i) ^ mask);
        return 1;
    }

    private int trim(int p, int n) {
        inside(n, 1, packOf(p).size());
        List<Integer> bytes = packs.get(p);
        bytes.subList(n, bytes.size()).clear();
        return 1;
    }

    /** Reads bytes one by one, and throws at the place that is WRONG. */
    private static final class Cursor {
        final List<Integer> bytes;
        int at;

        Cursor(List<Integer> bytes) {
            this.bytes = bytes;
        }

        int one() {
            refuseIf(at >= bytes.size(), at);
            return bytes.get(at++);
        }

        void wrongIf(boolean wrong, int place) {
            refuseIf(wrong, place);
        }

        int upTo(int most) {
            int b = one();
            wrongIf(b > most, at - 1);
            return b;
        }
    }

    private static int wrong(List<Integer> bytes) {
        try {
            parse(bytes);
            return -1;
        } catch (Refused refused) {
            return refused.answer;
        }
    }

    private static Leaf parse(List<Integer> bytes) {
        Cursor c = new Cursor(bytes);
        c.wrongIf(c.one() != 80, 0);
        c.wrongIf(c.one() != 75, 1);
        Leaf leaf = new Leaf();
        leaf.name = c.upTo(63);
        leaf.edition = c.upTo(99);
        leaf.manner = c.upTo(3);
        for (int left = c.upTo(4); left > 0; left--) {
            int name = c.upTo(63);
            c.wrongIf(leaf.needs.stream().anyMatch(n -> n.name() == name), c.at - 1);
            int edition = c.upTo(99);
            leaf.needs.add(new Need(name, edition, c.upTo(1) == 1));
        }
        for (int left = c.upTo(4); left > 0; left--) {
            int group = c.upTo(15);
            c.wrongIf(leaf.seals.contains(group), c.at - 1);
            leaf.seals.add(group);
        }
        List<int[]> heads = new ArrayList<>();
        for (int left = c.upTo(8); left > 0; left--) {
            int key = c.one();
            c.wrongIf(leaf.page(key) != null, c.at - 1);
            leaf.rows.add(new Row(key, c.upTo(2), new ArrayList<>()));
            c.upTo(0);
            int length = c.upTo(120);
            c.upTo(0);
            heads.add(new int[] {length, c.upTo(250)});
        }
        for (int r = 0; r < heads.size(); r++) {
            unpack(c, leaf.rows.get(r), heads.get(r)[0], heads.get(r)[1]);
        }
        List<Integer> ahead = new ArrayList<>(bytes.subList(0, c.at));
        pushSum(ahead, 1);
        for (int i = 0; i < 4; i++) {
            int due = ahead.get(c.at);
            c.wrongIf(c.one() != due, c.at - 1);
        }
        if (leaf.manner >= 2) {
            for (int i = 0; i < 4; i++) {
                c.one();
            }
        }
        c.wrongIf(c.at != bytes.size(), c.at);
        return leaf;
    }

    private static void unpack(Cursor c, Row row, int length, int size) {
        int end = c.at + size;
        List<Integer> page = row.page();
        if (row.packing() == 0) {
            c.wrongIf(size != length, c.at);
        }
        while (c.at < end) {
            if (row.packing() == 0) {
                page.add(c.one());
                continue;
            }
            int here = c.at;
            int n = c.one();
            if (row.packing() == 1) {
                c.wrongIf(n == 0 || n > length - page.size() || here == end - 1, here);
                page.addAll(Collections.nCopies(n, c.one()));
            } else if (n < 128) {
                c.wrongIf(n + 1 > length - page.size() || n + 1 > end - c.at, here);
                for (int i = 0; i <= n; i++) {
                    page.add(c.one());
                }
            } else {
                c.wrongIf(n - 125 > length - page.size() || 1 > end - c.at, here);
                int d = c.one();
                c.wrongIf(d == 0 || d > page.size(), c.at - 1);
                for (int i = 0; i < n - 125; i++) {
                    page.add(page.get(page.size() - d));
                }
            }
        }
        c.wrongIf(page.size() < length, c.at);
    }

    private static boolean signed(List<Integer> bytes, int secret) {
        if (wrong(bytes) >= 0 || parse(bytes).manner < 2) {
            return false;
        }
        List<Integer> due = new ArrayList<>(bytes.subList(0, bytes.size() - 4));
        pushSum(due, secret);
        return due.equals(bytes);
    }

    private List<List<Integer>> cut(int p, int size) {
        List<Integer> bytes = packOf(p);
        inside(size, 8, 100);
        List<List<Integer>> parts = new ArrayList<>();
        for (int at = 0; at < bytes.size(); at += size) {
            parts.add(bytes.subList(at, Math.min(at + size, bytes.size())));
        }
        return parts;
    }

    private int load(int p, int size, int i) {
        List<List<Integer>> parts = cut(p, size);
        inside(i, 0, parts.size() - 1);
        tape = new ArrayList<>(List.of(112, p, i, parts.size()));
        tape.addAll(parts.get(i));
        pushSum(tape, 2);
        return tape.size();
    }

    private int bend(int k, int mask) {
        inside(k, 0, tape.size() - 1);
        inside(mask, 1, 255);
        tape.set(k, tape.get(k) ^ mask);
        return 1;
    }

    private int take() {
        refuseIf(tape.isEmpty(), PackPost.STATE);
        refuseIf(tape.size() < 9 || tape.get(0) != 112 || tape.get(1) > 15, PackPost.SPOILED);
        int many = tape.get(3);
        refuseIf(many < 1 || many > 88 || tape.get(2) >= many, PackPost.SPOILED);
        List<Integer> due = new ArrayList<>(tape.subList(0, tape.size() - 4));
        pushSum(due, 2);
        refuseIf(!due.equals(tape), PackPost.SPOILED);
        Sent book = books.get(tape.get(1));
        refuseIf(!book.came.isEmpty() && book.many != many, PackPost.MIXED);
        refuseIf(book.came.containsKey(tape.get(2)), PackPost.TWICE);
        TreeMap<Integer, List<Integer>> then = new TreeMap<>(book.came);
        then.put(tape.get(2), new ArrayList<>(tape.subList(4, tape.size() - 4)));
        if (then.size() == many) {
            List<Integer> all = new ArrayList<>();
            then.values().forEach(all::addAll);
            refuseIf(packs.size() == 16 || all.size() > 700, PackPost.FULL);
            packs.add(all);
            book.came.clear();
            return 100 + packs.size() - 1;
        }
        book.many = many;
        book.came.putAll(then);
        return 0;
    }

    private int book(int p, int what) {
        inside(p, 0, 15);
        inside(what, 0, Integer.MAX_VALUE);
        Sent book = books.get(p);
        if (what == 0) {
            return book.came.isEmpty() ? 0 : book.many;
        }
        return what == 1 ? book.came.size() : book.came.containsKey(what - 2) ? 1 : 0;
    }

    private int drop(int p) {
        int had = book(p, 1);
        books.get(p).came.clear();
        return had;
    }

    private int open(int p, int secret) {
        List<Integer> bytes = packOf(p);
        refuseIf(shelf.size() == 12, PackPost.FULL);
        tellIf(wrong(bytes) >= 0, wrong(bytes), PackPost.BROKEN);
        refuseIf(secret != 0 && !signed(bytes, secret), PackPost.SIGN);
        Opened made = new Opened();
        made.leaf = parse(bytes);
        made.number = shelf.size();
        for (int i = 0; i < made.leaf.needs.size(); i++) {
            Opened best = meeting(made.leaf.needs.get(i));
            tellIf(best == null, i, PackPost.NEED);
            made.met.add(best);
            made.sees.add(best);
            made.sees.addAll(best.sees);
        }
        Set<Integer> clashes = new TreeSet<>();
        for (Opened seen : made.sees) {
            Set<Integer> theirs = new TreeSet<>(seen.leaf.seals);
            theirs.retainAll(made.leaf.groups());
            clashes.addAll(theirs);
            Set<Integer> own = new TreeSet<>(made.leaf.seals);
            own.retainAll(seen.leaf.groups());
            clashes.addAll(own);
        }
        tellIf(!clashes.isEmpty(), clashes.isEmpty() ? 0 : clashes.iterator().next(), PackPost.SEALED);
        shelf.add(made);
        return made.number;
    }

    private void tellIf(boolean refused, int told, int answer) {
        if (refused) {
            why = told;
            throw new Refused(answer);
        }
    }

    private static final Comparator<Opened> HIGHEST_FIRST =
        Comparator.<Opened>comparingInt(o -> -o.leaf.edition).thenComparingInt(o -> -o.number);

    private Opened meeting(Need need) {
        return shelf.stream()
            .filter(o -> !o.closed && o.leaf.name == need.name())
            .filter(o -> o.leaf.edition == need.edition() || !need.exact() && o.leaf.edition < need.edition())
            .min(HIGHEST_FIRST).orElse(null);
    }

    private Opened opened(int e, int otherwise) {
        refuseIf(e < 0 || e >= shelf.size(), otherwise);
        return shelf.get(e);
    }

    private int entry(int e, int what) {
        Opened o = opened(e, -2);
        refuseIf(what < 0, -2);
        int[] told = {o.leaf.name, o.leaf.edition, o.leaf.manner & 1, o.leaf.rows.size(), o.leaf.needs.size(),
            o.leaf.seals.size(), o.closed ? 1 : 0, o.overlays.size()};
        if (what < 8) {
            return told[what];
        }
        return what - 8 < o.met.size() ? o.met.get(what - 8).number : -1;
    }

    private int close(int e, boolean closed) {
        Opened o = opened(e, PackPost.NUMBER);
        refuseIf(o.closed == closed, PackPost.STATE);
        o.closed = closed;
        return 1;
    }

    private int overlay(int e, int o) {
        Opened under = opened(e, PackPost.NUMBER);
        Opened over = opened(o, PackPost.NUMBER);
        refuseIf(under == over || under.overlays.contains(over), PackPost.TWICE);
        refuseIf(under.overlays.size() == 4, PackPost.FULL);
        under.overlays.add(over);
        return under.overlays.size();
    }

    private static Opened search(Opened o, int key, Set<Opened> asked, List<Integer> path) {
        if (asked.contains(o) || o.closed && !asked.isEmpty()) {
            return null;
        }
        asked.add(o);
        List<Opened> order = new ArrayList<>(o.met);
        order.add((o.leaf.manner & 1) == 0 ? 0 : order.size(), o);
        for (Opened next : order) {
            Opened found = null;
            if (next == o) {
                path.add(o.number);
                found = o.leaf.page(key) == null ? null : o;
            } else {
                found = search(next, key, asked, path);
            }
            if (found != null) {
                return found;
            }
        }
        return null;
    }

    private Opened foundFrom(int e, int key, List<Integer> path) {
        Opened first = opened(e, -2);
        refuseIf(key < 0 || key > 255, -2);
        return search(first, key, new HashSet<>(), path);
    }

    private int find(int e, int key) {
        Opened found = foundFrom(e, key, new ArrayList<>());
        return found == null ? -1 : found.number;
    }

    private int path(int e, int key, int i) {
        List<Integer> path = new ArrayList<>();
        if (e >= 0 && e < shelf.size() && key >= 0 && key <= 255) {
            foundFrom(e, key, path);
        }
        return i >= 0 && i < path.size() ? path.get(i) : -1;
    }

    private int page(int e, int key) {
        int found = find(e, key);
        for (Opened over : shelf.get(e).overlays) {
            if (over.leaf.page(key) != null) {
                found = over.number;
            }
        }
        return found;
    }

    private int read(int e, int key, int i) {
        if (e < 0 || e >= shelf.size() || key < 0 || key > 255 || page(e, key) < 0) {
            return -1;
        }
        List<Integer> page = shelf.get(page(e, key)).leaf.page(key);
        return i >= 0 && i < page.size() ? page.get(i) : -1;
    }

    private int edition(int name, int i) {
        List<Opened> named = shelf.stream().filter(o -> o.leaf.name == name).sorted(HIGHEST_FIRST).toList();
        return i >= 0 && i < named.size() ? named.get(i).number : -1;
    }

    private int needed(int e, int i) {
        Opened asked = opened(e, -1);
        List<Opened> leaning = shelf.stream().filter(o -> o.met.contains(asked)).toList();
        return i >= 0 && i < leaning.size() ? leaning.get(i).number : -1;
    }
}
