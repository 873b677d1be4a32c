import java.io.File;
import java.io.IOException;
import java.lang.reflect.Method;
import java.lang.reflect.Modifier;
import java.net.URL;
import java.net.URLClassLoader;
import java.nio.file.Files;
import java.nio.file.Path;
import java.util.ArrayList;
import java.util.List;
import java.util.function.Supplier;
import java.util.regex.Matcher;
import java.util.regex.Pattern;
import javax.tools.JavaCompiler;
import javax.tools.ToolProvider;

/** README.md: its example is compiled as it stands there, and each call answers what stands behind it. */
public final class ReadmeTest {
    private static final String EXAMPLE = "ReadmeExample";
    private static final Pattern CALL =
        Pattern.compile("(x\\..*);\\s*// (-?\\d+|true|false|throws [A-Z]\\w+)(:.*)?");
    private static int wrong;
    private static int answers;

    private ReadmeTest() {
    }

    private static void tell(String text) {
        wrong++;
        System.out.println(text);
    }

    /** The example calls this; it stands in another class loader, so it must be public. */
    public static void due(int line, Supplier<Object> call, String want) {
        answers++;
        String got;
        try {
            got = String.valueOf(call.get());
        } catch (RuntimeException e) {
            got = "throws " + e.getClass().getSimpleName();
        }
        if (!got.equals(want)) {
            tell("README.md, line " + line + ", says " + want + ", the class answers " + got);
        }
    }

    /** The blocks of Java: those that begin with a comment or a static method are members, the rest are calls. */
    private static String exampleOf(List<String> lines) {
        StringBuilder members = new StringBuilder();
        StringBuilder calls = new StringBuilder();
        boolean inside = false;
        boolean member = false;
        for (int i = 0; i < lines.size(); i++) {
            String line = lines.get(i);
            if (line.startsWith("```")) {
                inside = line.equals("```java");
                member = inside && i + 1 < lines.size() && lines.get(i + 1).matches("(/\\*\\*|static ).*");
            } else if (inside && member) {
                members.append(line).append('\n');
            } else if (inside) {
                calls.append(callOf(line, i + 1)).append('\n');
            }
        }
        return "public final class " + EXAMPLE + " {\n" + members + "public static void run() {\n" + calls + "}\n}\n";
    }

    private static String callOf(String line, int number) {
        Matcher call = CALL.matcher(line);
        if (call.matches()) {
            return "ReadmeTest.due(" + number + ", () -> " + call.group(1) + ", \"" + call.group(2) + "\");";
        }
        if (!line.isEmpty() && !line.startsWith("//") && !line.equals("HoseDynasty x = new HoseDynasty();")) {
            tell("README.md, line " + number + ", says no answer: " + line);
        }
        return line;
    }

    private static void runExample(String source) throws Exception {
        JavaCompiler javac = ToolProvider.getSystemJavaCompiler();
        if (javac == null) {
            tell("no compiler for the example of README.md");
            return;
        }
        Path out = Files.createTempDirectory("readme");
        Path file = out.resolve(EXAMPLE + ".java");
        Files.writeString(file, source);
        int failed = javac.run(null, System.out, System.err, "--release", "17", "-cp", System.getProperty("java.class.path"),
            "-d", out.toString(), file.toString());
        if (failed != 0) {
            tell("the example of README.md does not compile");
        } else {
            try (URLClassLoader loader = new URLClassLoader(new URL[] {out.toUri().toURL()}, ReadmeTest.class.getClassLoader())) {
                loader.loadClass(EXAMPLE).getMethod("run").invoke(null);
            }
        }
        clear(out);
    }

    private static void clear(Path folder) throws IOException {
        File[] files = folder.toFile().listFiles();
        for (File file : files == null ? new File[0] : files) {
            Files.delete(file.toPath());
        }
        Files.delete(folder);
    }

    /** The page tells of each call of the face and of each test that is run. */
    private static void allNamed(String page) {
        List<String> names = new ArrayList<>(List.of(".ci/run", "../shared/tests", "../shared/DOC.md"));
        for (Method method : HoseDynasty.class.getDeclaredMethods()) {
            if (Modifier.isPublic(method.getModifiers())) {
                names.add("`" + method.getName() + "`");
            }
        }
        File[] tests = new File("src/test/java").listFiles((folder, name) -> name.endsWith("Test.java"));
        for (File test : tests == null ? new File[0] : tests) {
            names.add("`" + test.getName().replace(".java", "") + "`");
        }
        for (String name : names) {
            if (!page.contains(name)) {
                tell("README.md does not name " + name);
            }
        }
    }

    public static void main(String[] args) throws Exception {
        Path readme = Path.of("README.md");
        runExample(exampleOf(Files.readAllLines(readme)));
        allNamed(Files.readString(readme));
        if (answers == 0) {
            tell("README.md shows no call with its answer");
        }
        System.out.println(answers + " calls of README.md, " + (wrong == 0 ? "all as it says" : wrong + " things are not as it says"));
        if (wrong != 0) {
            System.exit(1);
        }
    }
}
