import java.io.IOException;
import java.lang.reflect.Method;
import java.lang.reflect.Modifier;
import java.nio.charset.StandardCharsets;
import java.nio.file.Files;
import java.nio.file.Path;
import java.util.ArrayList;
import java.util.List;
import java.util.regex.Matcher;
import java.util.regex.Pattern;
import javax.tools.ToolProvider;

/** README.md tells what holds; runs from the project's root. */
public final class ReadmeTest {
    private static final Path README = Path.of("README.md"), TESTS = Path.of("src/test/java");
    private static final Path DOCUMENT = Path.of("../shared/DOC.md");
    private static final String SOURCE = "src/main/java/LinenTunnel.java";
    private static final Due due = new Due("ReadmeTest");

    public static void main(String[] args) throws Exception {
        String readme = Files.readString(README, StandardCharsets.UTF_8);
        exampleRunsAsItStands(readme);
        callsAreTold(readme);
        callsAreToldByTheDocument(readme);
        testsAreNamed(readme);
        due.end();
    }

    private static void exampleRunsAsItStands(String readme) throws Exception {
        List<String> examples = blocks(readme, "java");
        due.is("examples in README.md", examples.size(), 1);
        String example = examples.get(0);
        Matcher named = Pattern.compile("public final class (\\w+)").matcher(example);
        holds("the example is a class", named.find());
        String name = named.group(1);
        Path out = Files.createTempDirectory("readme");
        try {
            Path file = Files.writeString(out.resolve(name + ".java"), example, StandardCharsets.UTF_8);
            int compiled = ToolProvider.getSystemJavaCompiler().run(null, null, null,
                "--release", "17", "-d", out.toString(), SOURCE, file.toString());
            due.is("compiling the example", compiled, 0);
            holds("it prints what README.md shows", blocks(readme, "text").contains(printed(out, name)));
        } finally {
            remove(out);
        }
        holds("README.md tells how to compile it", readme.contains("javac -d build " + SOURCE + " " + name + ".java\n"));
        holds("README.md tells how to run it", readme.contains("java -cp build " + name + "\n"));
    }

    private static String printed(Path classes, String name) throws Exception {
        Path java = Path.of(System.getProperty("java.home"), "bin", "java");
        Process run = new ProcessBuilder(java.toString(), "-cp", classes.toString(), name).redirectErrorStream(true).start();
        String text = new String(run.getInputStream().readAllBytes(), StandardCharsets.UTF_8);
        due.is("running the example", run.waitFor(), 0);
        return text.replace("\r\n", "\n");
    }

    private static void remove(Path folder) throws IOException {
        List<Path> all = new ArrayList<>();
        try (var walk = Files.walk(folder)) {
            walk.forEach(p -> all.add(0, p));
        }
        for (Path p : all) {
            Files.delete(p);
        }
    }

    private static List<String> blocks(String readme, String language) {
        List<String> blocks = new ArrayList<>();
        Matcher block = Pattern.compile("(?ms)^```" + language + "\\n(.*?)^```$").matcher(readme);
        while (block.find()) {
            blocks.add(block.group(1));
        }
        return blocks;
    }

    private static void callsAreTold(String readme) {
        for (Method m : LinenTunnel.class.getDeclaredMethods()) {
            if (Modifier.isPublic(m.getModifiers())) {
                holds("README.md tells " + m.getName(), readme.contains("- `" + m.getReturnType() + " " + m.getName() + "("));
            }
        }
    }

    private static void callsAreToldByTheDocument(String readme) throws IOException {
        if (!Files.exists(DOCUMENT)) {
            System.out.println("ReadmeTest: the document isn't there, so its words are not looked at");
            return;
        }
        String document = Files.readString(DOCUMENT, StandardCharsets.UTF_8);
        Matcher promise = Pattern.compile("(?m)^## (Promise \\d+): .*\\n\\n(.*)$").matcher(document);
        int promises = 0;
        while (promise.find()) {
            promises++;
            holds("README.md tells " + promise.group(1) + " as the document does", readme.contains("\n- " + promise.group(2) + "\n"));
        }
        due.is("promises of the document", promises, 32);
    }

    private static void testsAreNamed(String readme) throws IOException {
        try (var files = Files.list(TESTS)) {
            files.map(f -> f.getFileName().toString()).filter(f -> f.endsWith("Test.java")).forEach(f -> {
                String name = f.substring(0, f.length() - ".java".length());
                holds("README.md names " + name, readme.contains("`" + name + "`"));
            });
        }
        Matcher named = Pattern.compile("`(\\w+Test|Edges\\w+|NaiveHouse|LanguageRules)`").matcher(readme);
        while (named.find()) {
            holds(named.group(1) + " is there", Files.exists(TESTS.resolve(named.group(1) + ".java")));
        }
    }

    private static void holds(String what, boolean does) {
        due.is(what, does ? 1 : 0, 1);
    }
}
