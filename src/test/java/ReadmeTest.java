import java.io.IOException;
import java.lang.reflect.Method;
import java.lang.reflect.Modifier;
import java.nio.file.Files;
import java.nio.file.Path;
import java.util.List;
import java.util.regex.Matcher;
import java.util.regex.Pattern;
import javax.tools.ToolProvider;

/** README.md: its examples compile, each call in them answers what stands behind it, and every call of the face is told. */
public final class ReadmeTest {
    private static final Pattern BLOCK = Pattern.compile("(?s)```java\n(.*?)```");
    // An answer ends at a colon, behind which stands what it means.
    private static final Pattern ANSWERED = Pattern.compile("(?m)^(\\S.*);\\s*// ([^:\n]*).*$");

    public static void main(String[] args) throws IOException, InterruptedException {
        String readme = Files.readString(Path.of("README.md"));
        namesTheFace(readme);
        Path place = Files.createTempDirectory("readme");
        Path source = place.resolve("ReadmeExamples.java");
        try {
            Files.writeString(source, program(readme));
            Checks.due("README answers", runsWell(place, source), true);
        } finally {
            for (String name : new String[] {"ReadmeExamples.class", "ReadmeExamples.java", ""}) {
                Files.deleteIfExists(place.resolve(name));
            }
        }
        Checks.finish("ReadmeTest");
    }

    private static void namesTheFace(String readme) {
        for (Method method : PaperStorm.class.getDeclaredMethods()) {
            if (Modifier.isPublic(method.getModifiers())) {
                Checks.due("README names " + method.getName(), readme.contains("storm." + method.getName() + "("), true);
            }
        }
    }

    /** All examples as one program that checks the answers. */
    private static String program(String readme) {
        StringBuilder examples = new StringBuilder();
        Matcher block = BLOCK.matcher(readme);
        while (block.find()) {
            examples.append(block.group(1));
        }
        return "public final class ReadmeExamples {\n"
                + "static Object answerOf(Checks.Call call) {\n"
                + "try { return \"\" + call.answer(); }\n"
                + "catch (RuntimeException e) { return \"throws \" + e.getClass().getSimpleName(); }\n"
                + "}\n"
                + "public static void main(String[] args) {\n"
                + ANSWERED.matcher(examples).replaceAll(found -> Matcher.quoteReplacement(checking(found.group(1), found.group(2))))
                + "Checks.finish(\"README.md\");\n"
                + "}\n"
                + "}\n";
    }

    private static String checking(String call, String answer) {
        return "Checks.due(\"README \" + " + quoted(call) + ", answerOf(() -> " + call + "), " + quoted(answer.strip()) + ");";
    }

    private static String quoted(String text) {
        return '"' + text.replace("\\", "\\\\").replace("\"", "\\\"") + '"';
    }

    private static boolean runsWell(Path place, Path source) throws IOException, InterruptedException {
        String own = System.getProperty("java.class.path");
        int compiled = ToolProvider.getSystemJavaCompiler()
                .run(null, null, null, "-cp", own, "-d", place.toString(), source.toString());
        if (compiled != 0) {
            return false;
        }
        String java = Path.of(System.getProperty("java.home"), "bin", "java").toString();
        String classPath = own + System.getProperty("path.separator") + place;
        List<String> command = List.of(java, "-cp", classPath, "ReadmeExamples");
        return new ProcessBuilder(command).inheritIO().start().waitFor() == 0;
    }
}
