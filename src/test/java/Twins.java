import java.util.ArrayList;
import java.util.List;
import java.util.function.Consumer;
import java.util.function.ToIntFunction;

/**
 * Holds an object on which a call was made against a twin on which it wasn't: all that can be asked of the two is
 * the same. An object has 512 calls, so each question is put to two objects made anew.
 */
final class Twins {
    private static final int OCTETS = 250;
    private static final int[] KEYS = {0, 1, 16, 17, 31, 32, 40, 100, 200, 255};

    private interface Question {
        void ask(PackPost x, List<Integer> answers);
    }

    private Twins() {
    }

    /** The call answers so, and changes nothing. */
    static void unchanged(String what, Consumer<PackPost> made, ToIntFunction<PackPost> call, int answer) {
        compare(what, made, call, answer);
        PackPost x = new PackPost();
        PackPost y = new PackPost();
        made.accept(x);
        made.accept(y);
        call.applyAsInt(x);
        Due.is(what + ": why", x.why(), y.why());
    }

    /** The call answers so, and changes nothing but what why() tells. */
    static void toldOnly(String what, Consumer<PackPost> made, ToIntFunction<PackPost> call, int answer, int why) {
        compare(what, made, call, answer);
        PackPost x = new PackPost();
        made.accept(x);
        call.applyAsInt(x);
        Due.is(what + ": why", x.why(), why);
    }

    private static void compare(String what, Consumer<PackPost> made, ToIntFunction<PackPost> call, int answer) {
        List<Question> questions = new ArrayList<>();
        PackPost measured = new PackPost();
        made.accept(measured);
        for (int p = 0; p < 16; p++) {
            for (int from = 0; from <= measured.length(p); from += OCTETS) {
                int pack = p;
                int first = from;
                questions.add((x, answers) -> askOctets(x, pack, first, answers));
            }
        }
        for (int from = 0; from < 3 * OCTETS; from += OCTETS) {
            int first = from;
            questions.add((x, answers) -> askOctets(x, x.pack(0), first, answers));
        }
        questions.add(Twins::askDraft);
        questions.add(Twins::askTape);
        for (int p = 0; p < 16; p += 2) {
            int book = p;
            questions.add((x, answers) -> askBooks(x, book, answers));
        }
        questions.add(Twins::askEntries);
        questions.add(Twins::askFindings);
        questions.add(Twins::askPages);
        questions.add(Twins::askPaths);
        questions.add(Twins::askShelf);
        for (int n = 0; n < questions.size(); n++) {
            PackPost x = new PackPost();
            PackPost y = new PackPost();
            made.accept(x);
            made.accept(y);
            Due.is(what, call.applyAsInt(x), answer);
            List<Integer> changed = new ArrayList<>();
            List<Integer> due = new ArrayList<>();
            questions.get(n).ask(x, changed);
            questions.get(n).ask(y, due);
            for (int i = 0; i < due.size(); i++) {
                Due.is(what + ": question " + n + ", answer " + i, changed.get(i), due.get(i));
            }
        }
    }

    private static void askOctets(PackPost x, int p, int from, List<Integer> answers) {
        answers.add(p);
        answers.add(x.length(p));
        answers.add(x.check(p));
        for (int i = from; i < from + OCTETS; i++) {
            answers.add(x.octet(p, i));
        }
    }

    private static void askDraft(PackPost x, List<Integer> answers) {
        answers.add(x.add(-1, -1, -1, -1, -1));
        answers.add(x.again(1, 0));
        answers.add(x.need(62, 1, true));
        answers.add(x.seal(14));
        answers.add(x.row(254, 1));
        answers.add(x.add(-1, -1, -1, -1, -1));
    }

    private static void askTape(PackPost x, List<Integer> answers) {
        for (int k = 0; k < 109; k++) {
            answers.add(x.tape(k));
        }
        answers.add(x.take());
    }

    private static void askBooks(PackPost x, int first, List<Integer> answers) {
        for (int p = first; p < first + 2; p++) {
            for (int what = 0; what < 2 + 88; what++) {
                answers.add(x.book(p, what));
            }
            answers.add(x.drop(p));
        }
    }

    private static void askEntries(PackPost x, List<Integer> answers) {
        for (int e = 0; e < 12; e++) {
            for (int what = 0; what < 12; what++) {
                answers.add(x.entry(e, what));
            }
        }
    }

    private static void askFindings(PackPost x, List<Integer> answers) {
        for (int e = 0; e < 12; e++) {
            for (int key : KEYS) {
                answers.add(x.find(e, key));
            }
        }
    }

    private static void askPages(PackPost x, List<Integer> answers) {
        for (int e = 0; e < 12; e++) {
            for (int key : KEYS) {
                answers.add(x.page(e, key));
                answers.add(x.read(e, key, 0));
            }
        }
    }

    private static void askPaths(PackPost x, List<Integer> answers) {
        for (int e = 0; e < 12; e++) {
            for (int i = 0; i < 12; i++) {
                answers.add(x.path(e, 99, i));
            }
        }
    }

    private static void askShelf(PackPost x, List<Integer> answers) {
        for (int name = 0; name < 8; name++) {
            for (int i = 0; i < 4; i++) {
                answers.add(x.edition(name, i));
            }
        }
        for (int e = 0; e < 12; e++) {
            for (int i = 0; i < 4; i++) {
                answers.add(x.needed(e, i));
            }
        }
        Crafts.smallPacks(x, 1);
        answers.add(x.open(0, 0));
    }
}
