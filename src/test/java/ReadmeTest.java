import java.io.IOException;
import java.io.StringWriter;
import java.lang.invoke.MethodHandles;
import java.lang.reflect.Method;
import java.lang.reflect.Modifier;
import java.net.URI;
import java.nio.file.DirectoryStream;
import java.nio.file.Files;
import java.nio.file.Path;
import java.util.List;
import java.util.regex.Matcher;
import java.util.regex.Pattern;
import javax.tools.JavaCompiler;
import javax.tools.JavaFileObject;
import javax.tools.SimpleJavaFileObject;
import javax.tools.ToolProvider;

/** The examples of README.md answer as it writes, each call has one, and each test of the project is named there. */
final class ReadmeTest {
    private static final Path README = Path.of("README.md");
    private static final Path COMPILED = Path.of("build", "readme");
    private static final Pattern CALL = Pattern.compile("\\s*(\\w+\\.\\w+\\(.*\\));(.*)");
    private static final Pattern ANSWER = Pattern.compile("\\s*// (-?\\d+): .*");
    private static final Pattern THROWN = Pattern.compile("\\s*// throws (\\w+): .*");

    private ReadmeTest() {
    }

    public static void main(String[] args) throws IOException, ReflectiveOperationException {
        String program = program(Files.readAllLines(README));
        play(program);
        for (Method call : AboveIsShut.class.getDeclaredMethods()) {
            if (Modifier.isPublic(call.getModifiers())) {
                Check.holds("README.md has an example of " + call.getName(), program.contains("." + call.getName() + "("));
            }
        }
        testsAreNamed(Files.readString(README));
        Check.end();
    }

    /** All examples one behind the other, as a class that looks at each answer. */
    private static String program(List<String> lines) {
        StringBuilder program = new StringBuilder("final class ReadmeExamples {\n    static void play() {\n");
        boolean inside = false;
        for (int i = 0; i < lines.size(); i++) {
            String line = lines.get(i);
            if (line.startsWith("```")) {
                inside = line.equals("```java");
            } else if (inside) {
                program.append(looked(line, "README.md, line " + (i + 1) + ": ")).append('\n');
            }
        }
        return program.append("    }\n}\n").toString();
    }

    private static String looked(String line, String where) {
        Matcher call = CALL.matcher(line);
        if (!call.matches()) {
            return line;
        }
        String told = "\"" + where + call.group(1) + "\"";
        Matcher answer = ANSWER.matcher(call.group(2));
        if (answer.matches()) {
            return "Check.due(" + told + ", " + call.group(1) + ", " + answer.group(1) + ");";
        }
        Matcher thrown = THROWN.matcher(call.group(2));
        Check.holds(where + "an answer stands behind the call", thrown.matches());
        return "try { " + call.group(1) + "; Check.holds(" + told + ", false); } catch (RuntimeException e) { Check.holds("
            + told + ", e.getClass() == " + (thrown.matches() ? thrown.group(1) : "Void") + ".class); }";
    }

    private static void play(String program) throws IOException, ReflectiveOperationException {
        JavaCompiler compiler = ToolProvider.getSystemJavaCompiler();
        Files.createDirectories(COMPILED);
        List<String> options = List.of("-d", COMPILED.toString(), "-cp", System.getProperty("java.class.path"));
        JavaFileObject source = new SimpleJavaFileObject(URI.create("text:///ReadmeExamples.java"), JavaFileObject.Kind.SOURCE) {
            public CharSequence getCharContent(boolean ignoreEncodingErrors) {
                return program;
            }
        };
        StringWriter faults = new StringWriter();
        boolean compiled = compiler.getTask(faults, null, null, options, null, List.of(source)).call();
        Check.holds("the examples of README.md compile: " + faults, compiled);
        if (compiled) {
            byte[] examples = Files.readAllBytes(COMPILED.resolve("ReadmeExamples.class"));
            MethodHandles.lookup().defineClass(examples).getDeclaredMethod("play").invoke(null);
        }
    }

    private static void testsAreNamed(String readme) throws IOException {
        try (DirectoryStream<Path> tests = Files.newDirectoryStream(Path.of("src", "test", "java"), "*Test.java")) {
            for (Path test : tests) {
                String name = test.getFileName().toString().replace(".java", "");
                Check.holds("README.md names " + name, readme.contains("`" + name + "`"));
            }
        }
    }
}
