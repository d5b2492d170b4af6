import java.io.IOException;
import java.lang.reflect.Field;
import java.lang.reflect.Method;
import java.lang.reflect.Modifier;
import java.nio.file.Files;
import java.nio.file.Path;
import java.util.Set;
import java.util.TreeSet;
import java.util.regex.Matcher;
import java.util.regex.Pattern;

/** The public face of the document, its constants, and those rules of LANGUAGE.md that a text can be searched for. */
public final class FaceTest {
    private static final Check CHECK = new Check("FaceTest");
    private static final String[] FACE = {
        "int treaty(int, int, int, int)", "int ofSon(int, int)", "int gain(int, int)", "int tempt(int, int, int)",
        "int send(int, int, int)", "int home(int)", "int stake(int, int)", "int stakes(int, int)", "int tempted(int)",
        "int broken(int)", "int plan(int, int, int, int, int)", "int least()", "int hole(int)", "int when(int)",
        "int reading(int, int, boolean)", "int back(int)", "int worths(int)", "int kinds(int)", "int fondness(int)",
        "long odds(int, int)", "int sheet(int, int, int)", "int lose(int)", "int put(int, int, int)",
        "long cell(int, int, int)", "int copy(int, int, int, int, int)", "int tell(int)", "int teach(int)",
        "int as(int, int)", "int trace()", "int fault()", "int many(int)"};
    private static final String[] RULED_OUT = {"\\bthrow\\b", "\\bthrows\\b", "\\btry\\b", "\\bcatch\\b",
        "\\bsynchronized\\b", "\\bassert\\b", "\\bimport\\b", "\\bpackage\\b", "->", "::", "\\w+Exact\\b",
        "\\bstatic\\s*\\{", "\\bObject\\b", "\\bSystem\\.(?!arraycopy)", "\\bthis\\s*::", "\\bhashCode\\b",
        "\\btoString\\b", "\\bThread\\b", "\\bvar\\b"};

    public static void main(String[] args) throws IOException {
        constants();
        methods();
        fields();
        nested();
        source();
        CHECK.end();
    }

    private static void constants() {
        CHECK.due("UNKNOWN", FosterSons.UNKNOWN, -1);
        CHECK.due("OUTSIDE", FosterSons.OUTSIDE, -2);
        CHECK.due("STATE", FosterSons.STATE, -3);
        CHECK.due("FULL", FosterSons.FULL, -4);
        CHECK.due("NONE", FosterSons.NONE, -9);
        CHECK.due("LOST", FosterSons.LOST, Long.MIN_VALUE);
    }

    private static void methods() {
        Set<String> seen = new TreeSet<>();
        Set<String> publicNames = new TreeSet<>();
        Set<String> otherNames = new TreeSet<>();
        for (Method method : FosterSons.class.getDeclaredMethods()) {
            if (Modifier.isPrivate(method.getModifiers())) {
                otherNames.add(method.getName());
            } else {
                publicNames.add(method.getName());
                seen.add(method.toString().replace("FosterSons.", "").replace("public ", "").replace(",", ", "));
            }
        }
        CHECK.due("the methods", seen.toString(), new TreeSet<>(Set.of(FACE)).toString());
        for (Class<?> inside : FosterSons.class.getDeclaredClasses()) {
            for (Method method : inside.getDeclaredMethods()) {
                otherNames.add(method.getName());
            }
        }
        otherNames.retainAll(publicNames);
        CHECK.due("names used twice", otherNames.toString(), "[]");
        CHECK.due("constructors", FosterSons.class.getConstructors().length, 1);
        CHECK.due("all constructors", FosterSons.class.getDeclaredConstructors().length, 1);
        CHECK.due("final", Modifier.isFinal(FosterSons.class.getModifiers()) ? 1 : 0, 1);
    }

    private static void fields() {
        Set<String> seen = new TreeSet<>();
        for (Field field : FosterSons.class.getDeclaredFields()) {
            boolean isStatic = Modifier.isStatic(field.getModifiers());
            CHECK.due("static but not final: " + field,
                isStatic && !Modifier.isFinal(field.getModifiers()) ? 1 : 0, 0);
            if (!Modifier.isPrivate(field.getModifiers())) {
                seen.add(field.getName());
            }
        }
        CHECK.due("the constants", seen.toString(), "[FULL, LOST, NONE, OUTSIDE, STATE, UNKNOWN]");
    }

    private static void nested() {
        Class<?>[] inside = FosterSons.class.getDeclaredClasses();
        CHECK.due("at most twelve classes", inside.length <= 12 ? 1 : 0, 1);
        for (Class<?> c : inside) {
            CHECK.due("static: " + c, Modifier.isStatic(c.getModifiers()) ? 1 : 0, 1);
            CHECK.due("not public: " + c, Modifier.isPublic(c.getModifiers()) ? 1 : 0, 0);
        }
    }

    private static void source() throws IOException {
        String text = Files.readString(Path.of("src/main/java/FosterSons.java"));
        CHECK.due("signs beyond 127", text.chars().filter(c -> c > 127).count(), 0);
        String code = text.replaceAll("(?s)/\\*.*?\\*/", " ").replaceAll("//[^\n]*", " ");
        for (String rule : RULED_OUT) {
            Matcher found = Pattern.compile(rule).matcher(code);
            CHECK.due("ruled out: " + rule, found.find() ? 1 : 0, 0);
        }
        // A method stands at 4 or 8 spaces; from its first line to the brace in the same column.
        Matcher method = Pattern.compile("(?m)^( {4}| {8})(?=\\S)[^\n;=]*\\) \\{\n(?s:.*?)\n\\1\\}").matcher(text);
        while (method.find()) {
            long lines = method.group().chars().filter(c -> c == '\n').count() + 1;
            CHECK.due("too long: " + method.group().lines().findFirst().orElse(""), lines > 60 ? 1 : 0, 0);
        }
    }
}
