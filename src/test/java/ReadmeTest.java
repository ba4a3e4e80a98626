import java.io.IOException;
import java.lang.reflect.Method;
import java.nio.file.Files;
import java.nio.file.Path;
import java.util.ArrayList;
import java.util.List;
import java.util.Set;
import java.util.TreeSet;
import java.util.regex.Matcher;
import java.util.regex.Pattern;
import java.util.stream.Stream;

/** What README.md says of the class's use and of its tests holds for both as they stand. */
public final class ReadmeTest {
    private static final Path TESTS = Path.of("src/test/java");
    private static final String[] NONE_IS_MINUS_ONE = {"octet", "tape", "entry", "find", "path", "page", "read",
        "edition", "needed"};

    public static void main(String[] args) throws IOException {
        String readme = Files.readString(Path.of("README.md"));
        example();
        exampleIsTheReadmes(readme);
        callsAreTold(readme);
        testsAreTold(readme);
        noneSuch(readme);
        Due.end("ReadmeTest");
    }

    private static void example() {
        // ---- README.md's example, line by line
        PackPost post = new PackPost();
        post.draft(3, 1, 0);                     // a draft: name 3, edition 1, manner 0
        post.row(17, 2);                         // a page under key 17, by packing 2
        post.add(1, 2, 3, -1, -1);               // bytes 1 2 3; -1 ends them
        post.again(3, 7);                        // seven more, each as the one 3 ahead of it
        int pack = post.pack(7);                 // written and signed by the secret 7: pack 0

        int last = 0;
        int many = post.parts(pack, 10);         // how many parts of 10 bytes it has: 3
        for (int i = 0; i < many; i++) {
            post.load(pack, 10, i);              // part i is on the tape
            last = post.take();                  // and comes: 0, but the last one 100 + 1
        }
        int joined = last - 100;                 // the parts are one pack more: pack 1

        int refused = post.open(joined, 8);      // another secret: PackPost.SIGN
        int entry = post.open(joined, 7);        // on the shelf: entry 0

        post.draft(4, 0, 0);
        post.need(3, 9, false);                  // needs name 3, of edition 9 or a lower one
        int leaning = post.open(post.pack(0), 0);
        int holder = post.find(leaning, 17);     // key 17 is found in what meets the need: entry 0
        int octet = post.read(leaning, 17, 9);   // byte 9 of that page: 1
        // ---- its end
        Due.is("README: pack", pack, 0);
        Due.is("README: many", many, 3);
        Due.is("README: joined", joined, 1);
        Due.is("README: refused", refused, PackPost.SIGN);
        Due.is("README: entry", entry, 0);
        Due.is("README: leaning", leaning, 1);
        Due.is("README: holder", holder, 0);
        Due.is("README: octet", octet, 1);
    }

    private static void exampleIsTheReadmes(String readme) throws IOException {
        String source = Files.readString(TESTS.resolve("ReadmeTest.java"));
        List<String> run = lines(between(source, "// ---- README.md's example, line by line\n", "// ---- its end"));
        List<String> told = lines(between(readme, "```java\n", "```"));
        Due.isTrue("README: its example is the one that runs here", !told.isEmpty() && told.equals(run));
    }

    private static String between(String text, String head, String end) {
        int from = text.indexOf(head);
        int to = text.indexOf(end, from + head.length());
        return from < 0 || to < 0 ? "" : text.substring(from + head.length(), to);
    }

    private static List<String> lines(String text) {
        List<String> all = new ArrayList<>();
        for (String line : text.split("\n")) {
            if (!line.isBlank()) {
                all.add(line.strip());
            }
        }
        return all;
    }

    /** The words in marks in the first cells of the tables below a head. */
    private static Set<String> firstCells(String readme, String head) {
        Set<String> words = new TreeSet<>();
        for (String line : lines(between(readme + "\n## ", head, "\n## "))) {
            if (line.startsWith("| `")) {
                Matcher word = Pattern.compile("`(\\w+)`").matcher(line.substring(0, line.indexOf('|', 1)));
                while (word.find()) {
                    Due.isTrue("README: told once, " + word.group(1), words.add(word.group(1)));
                }
            }
        }
        return words;
    }

    private static void callsAreTold(String readme) {
        Set<String> calls = new TreeSet<>();
        for (Method m : PackPost.class.getMethods()) {
            if (m.getDeclaringClass() == PackPost.class) {
                calls.add(m.getName());
            }
        }
        Set<String> told = firstCells(readme, "\n## Use\n");
        Due.isTrue("README: the calls that it tells " + told, told.equals(calls));
    }

    private static void testsAreTold(String readme) throws IOException {
        Set<String> tests = new TreeSet<>();
        try (Stream<Path> files = Files.list(TESTS)) {
            files.map(file -> file.getFileName().toString()).filter(name -> name.endsWith("Test.java"))
                .forEach(name -> tests.add(name.substring(0, name.length() - ".java".length())));
        }
        Set<String> told = firstCells(readme, "\n## Tests\n");
        Due.isTrue("README: the tests that it tells " + told, told.equals(tests));
        Due.isTrue("README: .ci/run is there to be run", Files.isExecutable(Path.of(".ci/run")));
        Due.isTrue("README: and is told", lines(between(readme, "```sh\n", "```")).equals(List.of(".ci/run")));
    }

    /** What it says of -1 and -2, on an object that has a pack and an entry without needs. */
    private static void noneSuch(String readme) {
        PackPost x = new PackPost();
        x.draft(0, 0, 0);
        Due.is("README: open", x.open(x.pack(0), 0), 0);
        int[] none = {x.octet(0, 700), x.tape(0), x.entry(0, 8), x.find(0, 1), x.path(0, 1, 1), x.page(0, 1),
            x.read(0, 1, 0), x.edition(1, 0), x.needed(0, 0)};
        String told = between(readme, "\n- -1 from ", ": there is none such.");
        for (int i = 0; i < none.length; i++) {
            Due.is("README: none such by " + NONE_IS_MINUS_ONE[i], none[i], -1);
            Due.isTrue("README: tells -1 of " + NONE_IS_MINUS_ONE[i], told.contains("`" + NONE_IS_MINUS_ONE[i] + "`"));
        }
        Due.is("README: no entry", x.entry(1, 0), -2);
        Due.is("README: no entry to find from", x.find(1, 0), -2);
        Due.is("README: no entry with a page", x.page(1, 0), -2);
        Due.is("README: check of a pack", x.check(0), -1);
        Due.is("README: check of none", x.check(1), -2);
        x.spoil(0, 1, 1);
        Due.is("README: check of a spoiled one", x.check(0), 1);
    }
}
