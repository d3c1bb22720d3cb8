import java.io.IOException;
import java.net.URL;
import java.net.URLClassLoader;
import java.nio.file.Files;
import java.nio.file.Path;
import java.util.ArrayList;
import java.util.List;
import java.util.regex.Matcher;
import java.util.regex.Pattern;
import javax.tools.ToolProvider;

/** README.md: its examples answer what it says, it names every call and test, and its numbers are the document's. */
final class ReadmeTest {
    private static final Path README = Path.of("README.md");
    private static final Path DOCUMENT = Path.of("../shared/DOC.md");
    private static final Path TESTS = Path.of("src/test/java");
    private static final Pattern EXAMPLE = Pattern.compile("(?s)```java\n(.*?)```");
    private static final Pattern CALL = Pattern.compile("(x\\.\\w+\\(.*?\\)); +// (throws \\w+|[-.\\d]+)(:.*)?");

    public static void main(String[] args) throws IOException, ReflectiveOperationException {
        String readme = Files.readString(README);
        examples(readme);
        names(readme);
        numbers(readme);
        Check.ends("ReadmeTest");
    }

    private static void examples(String readme) throws IOException, ReflectiveOperationException {
        StringBuilder body = new StringBuilder();
        List<String> lines = new ArrayList<>();
        List<String> due = new ArrayList<>();
        Matcher example = EXAMPLE.matcher(readme);
        while (example.find()) {
            body.append("{\n");
            for (String line : example.group(1).split("\n")) {
                Matcher call = CALL.matcher(line);
                boolean isCall = call.matches();
                Check.isTrue("a call without an answer: " + line, isCall || !line.startsWith("x."));
                body.append(isCall ? recorded(call.group(1)) : line).append("\n");
                if (isCall) {
                    lines.add(line);
                    due.add(call.group(2));
                }
            }
            body.append("}\n");
        }
        List<?> got = answers(body.toString());
        Check.same("answers of the examples", due.size(), got.size());
        for (int i = 0; i < due.size() && i < got.size(); i++) {
            Check.isTrue(lines.get(i) + " answered " + got.get(i), due.get(i).equals(got.get(i)));
        }
    }

    private static String recorded(String call) {
        return "try { got.add(String.valueOf(" + call + ")); }"
            + " catch (RuntimeException e) { got.add(\"throws \" + e.getClass().getSimpleName()); }";
    }

    /** The examples are compiled as they stand on the page: a copy of them here could go apart from it. */
    private static List<?> answers(String body) throws IOException, ReflectiveOperationException {
        Path place = Files.createTempDirectory("readme");
        Path source = place.resolve("Examples.java");
        Path compiled = place.resolve("Examples.class");
        try {
            Files.writeString(source, "public final class Examples { public static java.util.List<String> run() {\n"
                + "java.util.List<String> got = new java.util.ArrayList<>();\n" + body + "return got; } }\n");
            int status = ToolProvider.getSystemJavaCompiler().run(null, null, null, "-cp",
                System.getProperty("java.class.path"), "-d", place.toString(), source.toString());
            Check.same("compiling the examples", 0, status);
            if (status != 0) {
                return List.of();
            }
            try (URLClassLoader loader = new URLClassLoader(new URL[] {place.toUri().toURL()})) {
                return (List<?>) loader.loadClass("Examples").getMethod("run").invoke(null);
            }
        } finally {
            Files.deleteIfExists(compiled);
            Files.deleteIfExists(source);
            Files.deleteIfExists(place);
        }
    }

    private static void names(String readme) throws IOException {
        for (var method : HydrantRounds.class.getDeclaredMethods()) {
            if (java.lang.reflect.Modifier.isPublic(method.getModifiers())) {
                String name = method.getName();
                Check.isTrue("it does not name " + name,
                    Pattern.compile("x\\." + name + "\\(|`" + name + "`").matcher(readme).find());
            }
        }
        try (var files = Files.list(TESTS)) {
            files.map(file -> file.getFileName().toString()).filter(name -> name.endsWith("Test.java")).forEach(name ->
                Check.isTrue("it does not tell of " + name, readme.contains("| " + name.replace(".java", " |"))));
        }
    }

    /** What the page says of `what` and of the settings is said in the document by the same words. */
    private static void numbers(String readme) throws IOException {
        if (!Files.isReadable(DOCUMENT)) {
            System.out.println("the numbers are not held against " + DOCUMENT + ": it is not there");
            return;
        }
        String document = Files.readString(DOCUMENT);
        for (String call : List.of("`set`, `setting`", "`street`", "`count`", "`ifPassed`")) {
            Matcher told = Pattern.compile("(?s)\n- " + call + ": (0: .*?)\n(- |\n)").matcher(readme);
            boolean found = told.find();
            Check.isTrue("it does not tell the numbers of " + call, found);
            Check.isTrue("the document tells other numbers of " + call,
                found && document.contains(told.group(1).replaceAll("\\s+", " ") + "\n"));
        }
    }
}
