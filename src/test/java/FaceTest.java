import java.io.IOException;
import java.lang.reflect.Field;
import java.lang.reflect.Method;
import java.lang.reflect.Modifier;
import java.nio.file.Files;
import java.nio.file.Path;
import java.util.Arrays;
import java.util.Set;
import java.util.TreeSet;
import java.util.regex.Matcher;
import java.util.regex.Pattern;

/** The document's face, and the rules of the language that a look at the class and its source can tell. */
public final class FaceTest {
    private static final String[] CALLS = {"draft III", "need IIZ", "seal I", "row II", "add IIIII", "again II",
        "pack I", "length I", "octet II", "spoil III", "trim II", "check I", "signer II", "parts II", "load III",
        "tape I", "bend II", "take ", "book II", "drop I", "open II", "why ", "entry II", "close I", "reopen I",
        "overlay II", "find II", "path III", "page II", "read III", "edition II", "needed II"};
    private static final String[] REFUSALS = {"NUMBER", "STATE", "FULL", "TWICE", "BROKEN", "SIGN", "NEED", "SEALED",
        "SPOILED", "MIXED"};
    private static final String[] BARRED = {"\\bthrow\\b", "\\bthrows\\b", "\\btry\\b", "\\bcatch\\b", "\\bassert\\b",
        "\\bsynchronized\\b", "\\bimport\\b", "\\bpackage\\b", "->", "::", "\\bstatic\\s*\\{", "\\w+Exact\\(",
        "\\bSystem\\.(?!arraycopy)", "\\bvar\\b", "\\bObject\\b", "\"", "\\bprotected\\b"};

    private static final Path SOURCE = Path.of("src/main/java/PackPost.java");
    // A method's head, and its body up to the brace at the head's own indent.
    private static final Pattern METHOD =
        Pattern.compile("(?ms)^( +)((?:\\w+ )*)[\\w\\[\\]]+ (\\w+)\\([^)]*\\) \\{$(.*?)^\\1\\}$");

    public static void main(String[] args) throws IOException, ReflectiveOperationException {
        calls();
        constants();
        namesInside();
        source();
        recursion();
        Due.end("FaceTest");
    }

    private static String told(Method m) {
        StringBuilder kinds = new StringBuilder(m.getName()).append(' ');
        for (Class<?> kind : m.getParameterTypes()) {
            kinds.append(kind == int.class ? 'I' : kind == boolean.class ? 'Z' : '?');
        }
        return m.getReturnType() == int.class ? kinds.toString() : kinds + "!";
    }

    private static void calls() {
        Set<String> seen = new TreeSet<>();
        for (Method m : PackPost.class.getDeclaredMethods()) {
            if (Modifier.isPublic(m.getModifiers())) {
                seen.add(told(m));
            } else {
                Due.isTrue("face: private " + m, Modifier.isPrivate(m.getModifiers()));
            }
        }
        Due.isTrue("face: the calls " + seen, seen.equals(new TreeSet<>(Arrays.asList(CALLS))));
        Due.isTrue("face: public and final",
            (PackPost.class.getModifiers() & (Modifier.PUBLIC | Modifier.FINAL)) == (Modifier.PUBLIC | Modifier.FINAL));
        Due.is("face: constructors", PackPost.class.getDeclaredConstructors().length, 1);
        Due.is("face: the public constructor", PackPost.class.getConstructors()[0].getParameterCount(), 0);
    }

    private static void constants() throws ReflectiveOperationException {
        for (int i = 0; i < REFUSALS.length; i++) {
            Field constant = PackPost.class.getField(REFUSALS[i]);
            Due.is("face: " + REFUSALS[i], constant.getInt(null), -1 - i);
            Due.isTrue("face: final " + REFUSALS[i], Modifier.isFinal(constant.getModifiers()));
        }
        Due.is("face: public fields", PackPost.class.getFields().length, REFUSALS.length);
        for (Field field : PackPost.class.getDeclaredFields()) {
            int m = field.getModifiers();
            Due.isTrue("face: " + field, Modifier.isPublic(m) || Modifier.isPrivate(m));
        }
    }

    private static void namesInside() {
        Set<String> names = new TreeSet<>();
        for (String call : CALLS) {
            names.add(call.split(" ")[0]);
        }
        Due.isTrue("rule 11: classes", PackPost.class.getDeclaredClasses().length < 12);
        for (Class<?> inside : PackPost.class.getDeclaredClasses()) {
            Due.isTrue("rule 2: static " + inside, Modifier.isStatic(inside.getModifiers()));
            int fields = 0;
            for (Method m : inside.getDeclaredMethods()) {
                Due.isTrue("rule 1: the name of " + m, !names.contains(m.getName()));
                Due.isTrue("rule 11: parameters of " + m, m.getParameterCount() <= 7);
            }
            for (Field field : inside.getDeclaredFields()) {
                fields += Modifier.isStatic(field.getModifiers()) ? 0 : 1;
                Due.isTrue("rule 5: " + field, !Modifier.isStatic(field.getModifiers())
                    || Modifier.isFinal(field.getModifiers()));
            }
            Due.isTrue("rule 11: fields of " + inside, fields <= 20);
        }
    }

    private static String withoutComments(String all) {
        return all.replaceAll("(?s)/\\*.*?\\*/", "").replaceAll("//[^\n]*", "");
    }

    private static void source() throws IOException {
        String all = Files.readString(SOURCE);
        String code = withoutComments(all);
        for (String barred : BARRED) {
            Due.isTrue("rules 4, 5, 6: no " + barred, !Pattern.compile(barred).matcher(code).find());
        }
        Due.isTrue("plain letters alone", all.chars().allMatch(c -> c < 128));
    }

    private static void recursion() throws IOException {
        Matcher method = METHOD.matcher(withoutComments(Files.readString(SOURCE)));
        int methods = 0;
        int ownCallers = 0;
        for (int from = 0; method.find(from); from = method.end()) {
            methods++;
            if (Pattern.compile("(?<![\\w.])(this\\.)?" + method.group(3) + "\\(").matcher(method.group(4)).find()) {
                ownCallers++;
                Due.isTrue("rule 8: private static " + method.group(3), method.group(2).equals("private static "));
            }
        }
        Due.isTrue("rule 8: methods that were looked at, " + methods, methods > 100);
        Due.is("rule 8: methods that call themselves", ownCallers, 1);
    }
}
