import java.io.IOException;
import java.lang.reflect.Member;
import java.lang.reflect.Method;
import java.lang.reflect.Modifier;
import java.nio.file.Files;
import java.nio.file.Path;
import java.util.ArrayList;
import java.util.Arrays;
import java.util.HashSet;
import java.util.List;
import java.util.Set;
import java.util.TreeSet;
import java.util.regex.Matcher;
import java.util.regex.Pattern;

/** The public face, and of the rules of LANGUAGE.md those that can be read off the class and its text. */
public final class FaceTest {
    private static final Path DOCUMENT = Path.of("../shared/DOC.md");
    private static final Path SOURCE = Path.of("src/main/java/PaperStorm.java");
    private static final String[] FORBIDDEN = {
        "\\bcatch\\b", "\\btry\\b", "\\bfinally\\b", "->", "::", "\\bassert\\b", "\\bsynchronized\\b", "\\bprotected\\b",
        "static \\{", "\\bpackage\\b", "\\bNaN\\b", "\\binstanceof\\b", "Exact\\(", "\\bSystem\\b", "\\bThread\\b"};

    public static void main(String[] args) throws IOException {
        signatures();
        members();
        text();
        Checks.finish("FaceTest");
    }

    private static void signatures() throws IOException {
        Set<String> want = new TreeSet<>();
        Matcher line = Pattern.compile("(?m)^    public ([^{;]*);$").matcher(Files.readString(DOCUMENT));
        while (line.find()) {
            want.add(line.group(1).replaceAll("(\\w+) [a-z]\\w*(?=[,)])", "$1").replace(", ", ","));
        }
        want.remove("PaperStorm()");
        Set<String> got = new TreeSet<>();
        for (Method method : PaperStorm.class.getDeclaredMethods()) {
            if (Modifier.isPublic(method.getModifiers())) {
                got.add(signature(method));
            }
        }
        Checks.due("face has the document's 48 methods", want.size(), 48);
        Checks.due("face", got, want);
        Checks.due("face one constructor", PaperStorm.class.getConstructors().length, 1);
        Checks.due("face all constructors", PaperStorm.class.getDeclaredConstructors().length, 1);
        Checks.due("face final", Modifier.isFinal(PaperStorm.class.getModifiers()), true);
    }

    private static String signature(Method method) {
        List<String> parameters = new ArrayList<>();
        for (Class<?> type : method.getParameterTypes()) {
            parameters.add(type.getSimpleName());
        }
        List<String> thrown = new ArrayList<>();
        for (Class<?> type : method.getExceptionTypes()) {
            thrown.add(type.getSimpleName());
        }
        return method.getReturnType().getSimpleName() + " " + method.getName() + "(" + String.join(",", parameters) + ")"
                + (thrown.isEmpty() ? "" : " throws " + String.join(",", thrown));
    }

    private static void members() {
        Set<String> faceNames = new HashSet<>();
        List<Member> hidden = new ArrayList<>(Arrays.asList(PaperStorm.class.getDeclaredFields()));
        for (Method method : PaperStorm.class.getDeclaredMethods()) {
            if (Modifier.isPublic(method.getModifiers())) {
                faceNames.add(method.getName());
            } else {
                hidden.add(method);
            }
        }
        for (Member member : hidden) {
            if (!member.isSynthetic()) {
                Checks.due("rule 1 private " + member.getName(), Modifier.isPrivate(member.getModifiers()), true);
            }
        }
        for (Class<?> inside : PaperStorm.class.getDeclaredClasses()) {
            Checks.due("rule 1 static " + inside, Modifier.isStatic(inside.getModifiers()), true);
            for (Method method : inside.getDeclaredMethods()) {
                Checks.due("rule 1 a name of the face in " + inside, faceNames.contains(method.getName()), false);
            }
            Checks.due("rule 11 fields of " + inside, inside.getDeclaredFields().length <= 20, true);
        }
        Checks.due("rule 11 classes", PaperStorm.class.getDeclaredClasses().length < 12, true);
    }

    private static void text() throws IOException {
        String source = Files.readString(SOURCE);
        for (int index = 0; index < source.length(); index++) {
            if (source.charAt(index) > 126) {
                Checks.due("rule 4 a sign at " + index, (int) source.charAt(index), 126);
            }
        }
        String code = source.replaceAll("//.*|(?s)/\\*.*?\\*/", "").replaceAll("\"[^\"]*\"", "\"\"");
        for (String word : FORBIDDEN) {
            Checks.due("language " + word, Pattern.compile(word).matcher(code).find(), false);
        }
        Matcher imported = Pattern.compile("(?m)^import .*$").matcher(code);
        while (imported.find()) {
            Checks.due("rule 4", imported.group(), "import java.util.NoSuchElementException;");
        }
    }
}
