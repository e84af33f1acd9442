import java.io.IOException;
import java.lang.reflect.InvocationTargetException;
import java.net.URL;
import java.net.URLClassLoader;
import java.nio.file.Files;
import java.nio.file.Path;
import java.util.ArrayList;
import java.util.List;
import java.util.regex.Matcher;
import java.util.regex.Pattern;
import java.util.stream.Stream;
import javax.tools.JavaCompiler;
import javax.tools.ToolProvider;

/** What README.md says holds: its example compiles and answers what stands behind each call, and its command is there. */
public final class ReadmeTests {
    private static final Pattern BLOCK = Pattern.compile("```(\\w+)\n(.*?)```", Pattern.DOTALL);
    private static final Pattern MADE = Pattern.compile("FallingGains bench = new FallingGains\\(\\);");
    private static final Pattern CALL = Pattern.compile("(?:int (\\w+) = )?(bench\\.\\w+\\(.*\\));\\s+// (-?\\d+): \\S.*");
    private static final int FEWEST_CALLS = 20;
    private static int wrong;

    private static void fault(String text) {
        wrong++;
        System.out.println(text);
    }

    private static List<String> blocks(String readme, String language) {
        List<String> found = new ArrayList<>();
        Matcher block = BLOCK.matcher(readme);
        while (block.find()) {
            if (block.group(1).equals(language)) found.add(block.group(2));
        }
        return found;
    }

    /** Answers the line as a program that counts what is not as README.md says, or null if it cannot be read. */
    private static String asProgram(String line) {
        if (MADE.matcher(line).matches()) return line;
        Matcher call = CALL.matcher(line);
        if (!call.matches()) return null;
        String name = call.group(1), asked = call.group(2), told = call.group(3);
        String due = "wrong += due(\"" + asked + "\", " + (name == null ? asked : name) + ", " + told + "L);";
        return name == null ? due : "int " + name + " = " + asked + ";\n" + due;
    }

    private static String program(String example) {
        StringBuilder lines = new StringBuilder();
        int calls = 0;
        for (String line : example.split("\n")) {
            String part = asProgram(line);
            if (part == null) fault("README.md does not tell what is answered: " + line);
            else lines.append(part).append('\n');
            if (part != null && part.contains("due(")) calls++;
        }
        if (calls < FEWEST_CALLS) fault("README.md has only " + calls + " calls with their answers");
        return "public final class Example {\n"
            + "static int due(String call, long got, long want) {\n"
            + "if (got != want) System.out.println(\"README.md: \" + call + \" answered \" + got + \", not \" + want);\n"
            + "return got == want ? 0 : 1;\n}\n"
            + "public static int run() {\nint wrong = 0;\n" + lines + "return wrong;\n}\n}\n";
    }

    private static void example(String text, Path folder) throws IOException, ReflectiveOperationException {
        Path source = folder.resolve("Example.java");
        Files.writeString(source, program(text));
        JavaCompiler compiler = ToolProvider.getSystemJavaCompiler();
        String known = System.getProperty("java.class.path");
        if (compiler.run(null, null, null, "-cp", known, "-d", folder.toString(), source.toString()) != 0) {
            fault("the example of README.md does not compile");
            return;
        }
        try (URLClassLoader loader = new URLClassLoader(new URL[] {folder.toUri().toURL()})) {
            wrong += (int) loader.loadClass("Example").getMethod("run").invoke(null);
        } catch (InvocationTargetException thrown) {
            fault("the example of README.md throws " + thrown.getCause());
        }
    }

    private static void runExample(String readme) throws IOException, ReflectiveOperationException {
        Path folder = Files.createTempDirectory("readme");
        try {
            example(String.join("", blocks(readme, "java")), folder);
        } finally {
            try (Stream<Path> files = Files.list(folder)) {
                for (Path file : files.toList()) Files.delete(file);
            }
            Files.delete(folder);
        }
    }

    private static void command(String readme, Path root) {
        List<String> told = blocks(readme, "sh");
        if (told.size() != 1 || !told.get(0).trim().equals(".ci/run")) fault("README.md does not name one command: " + told);
        else if (!Files.isExecutable(root.resolve(".ci/run"))) fault(".ci/run cannot be run");
    }

    private static void names(String readme, Path folder, String suffix) throws IOException {
        try (Stream<Path> files = Files.list(folder)) {
            for (Path file : files.toList()) {
                String name = file.getFileName().toString().replace(".java", suffix);
                if (!readme.contains("`" + name + "`")) fault("README.md does not name " + name);
            }
        }
    }

    private static void constants(String readme) throws ReflectiveOperationException {
        for (String name : new String[] {"UNKNOWN", "OUTSIDE", "NOT", "FULL", "LARGE"}) {
            String told = "`" + name + "` (" + FallingGains.class.getField(name).getInt(null) + ")";
            if (!readme.contains(told)) fault("README.md does not say " + told);
        }
    }

    public static void main(String[] args) throws IOException, ReflectiveOperationException {
        if (args.length == 0) {
            fault("the project's folder is not told");
        } else {
            Path root = Path.of(args[0]);
            String readme = Files.readString(root.resolve("README.md"));
            runExample(readme);
            command(readme, root);
            names(readme, root.resolve("src/test/java"), ".java");
            names(readme, root.resolve("src/test/support"), "");
            constants(readme);
        }
        System.out.println("README.md: " + wrong + " faults");
        if (wrong != 0) System.exit(1);
    }
}
