import java.io.IOException;
import java.lang.reflect.Method;
import java.lang.reflect.Modifier;
import java.net.URL;
import java.net.URLClassLoader;
import java.nio.file.Files;
import java.nio.file.Path;
import java.util.ArrayList;
import java.util.Collections;
import java.util.List;
import java.util.regex.Matcher;
import java.util.regex.Pattern;
import java.util.stream.Collectors;
import java.util.stream.Stream;
import javax.tools.JavaCompiler;
import javax.tools.ToolProvider;

/** What README.md says: its examples, compiled as they stand there, and the methods and files that it names. */
public final class ReadmeTest {
    private static final Path BUILD = Path.of("build/readme");
    private static final Path TESTS = Path.of("src/test/java");
    private static final Path MAIN = Path.of("src/main/java");
    /** A call, perhaps with a variable for its answer, and perhaps with what is told of the answer. */
    private static final Pattern LINE = Pattern.compile("(?:int (\\w+) = )?(m\\.\\w+\\(.*\\));(?:  // (.*))?");

    private static int checks = 0;
    private static int wrong = 0;

    public static void main(String[] args) throws IOException, ReflectiveOperationException {
        String readme = Files.readString(Path.of("README.md"));
        List<String> lines = examples(readme);
        perform(lines);
        namesEachMethod(readme, String.join("\n", lines));
        namesEachFile(readme);
        System.out.println("ReadmeTest: " + lines.size() + " lines of examples, " + checks + " checks, " + wrong + " wrong");
        System.exit(wrong > 0 ? 1 : 0);
    }

    /** The examples call this. */
    public static void due(String what, Object got, Object want) {
        checks++;
        if (!want.equals(got)) {
            wrong++;
            System.out.println("README.md: " + what + " answered " + got + ", due is " + want);
        }
    }

    private static void holds(boolean fine, String what) {
        due(what, fine, true);
    }

    // ---- examples

    private static List<String> examples(String readme) {
        List<String> lines = new ArrayList<>();
        Matcher blocks = Pattern.compile("```java\n(.*?)```", Pattern.DOTALL).matcher(readme);
        while (blocks.find()) {
            Collections.addAll(lines, blocks.group(1).split("\n"));
        }
        holds(lines.size() > 50, "there are examples");
        return lines;
    }

    private static void perform(List<String> lines) throws IOException, ReflectiveOperationException {
        StringBuilder source = new StringBuilder("public final class ReadmeExamples {\n    public static void all() {\n");
        for (String line : lines) {
            source.append("        ").append(checked(line)).append('\n');
        }
        source.append("    }\n}\n");
        Files.createDirectories(BUILD);
        Path file = BUILD.resolve("ReadmeExamples.java");
        Files.writeString(file, source);
        JavaCompiler compiler = ToolProvider.getSystemJavaCompiler();
        String classes = System.getProperty("java.class.path");
        int exit = compiler.run(null, null, null, "-nowarn", "-cp", classes, "-d", BUILD.toString(), file.toString());
        due("the compiler", exit, 0);
        if (exit == 0) {
            URL[] places = {BUILD.toUri().toURL()};
            try (URLClassLoader loader = new URLClassLoader(places, ReadmeTest.class.getClassLoader())) {
                loader.loadClass("ReadmeExamples").getMethod("all").invoke(null);
            }
        }
    }

    /** The line as it stands, with a check of its answer behind or around it. */
    private static String checked(String line) {
        Matcher matcher = LINE.matcher(line);
        if (!matcher.matches()) {
            due("a line that is no call", line, "Macroloom m = new Macroloom();");
            return line;
        }
        String call = matcher.group(2), told = matcher.group(3);
        if (told == null) {
            return line;
        }
        String quoted = "\"" + call + "\"";
        String answer = told.contains(": ") ? told.substring(0, told.indexOf(": ")) : told;
        if (answer.startsWith("throws ")) {
            String want = "\"" + answer.substring(7) + "\"";
            return "try { " + call + "; ReadmeTest.due(" + quoted + ", \"nothing\", " + want + "); } "
                + "catch (RuntimeException e) { ReadmeTest.due(" + quoted + ", e.getClass().getSimpleName(), " + want + "); }";
        }
        if (matcher.group(1) == null) {
            return "ReadmeTest.due(" + quoted + ", " + call + ", " + answer + ");";
        }
        return "int " + matcher.group(1) + " = " + call + "; ReadmeTest.due(" + quoted + ", " + matcher.group(1) + ", " + answer + ");";
    }

    // ---- what it names

    private static void namesEachMethod(String readme, String examples) {
        for (Method method : Macroloom.class.getDeclaredMethods()) {
            if (Modifier.isPublic(method.getModifiers())) {
                holds(readme.contains("`" + method.getName() + "("), method.getName() + "() is told of");
                holds(examples.contains("m." + method.getName() + "("), "an example has " + method.getName());
            }
        }
    }

    private static void namesEachFile(String readme) throws IOException {
        try (Stream<Path> files = Files.list(TESTS)) {
            for (Path file : files.collect(Collectors.toList())) {
                holds(readme.contains(file.getFileName().toString()), file + " is named");
            }
        }
        Matcher named = Pattern.compile("\\w+\\.java\\b").matcher(readme);
        while (named.find()) {
            holds(Files.exists(TESTS.resolve(named.group())) || Files.exists(MAIN.resolve(named.group())), "there is a " + named.group());
        }
    }
}
