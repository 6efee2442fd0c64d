import com.sun.management.ThreadMXBean;
import java.io.IOException;
import java.lang.management.ManagementFactory;
import java.lang.reflect.Constructor;
import java.lang.reflect.Field;
import java.lang.reflect.Method;
import java.lang.reflect.Modifier;
import java.nio.file.Files;
import java.nio.file.Path;
import java.util.ArrayList;
import java.util.Arrays;
import java.util.List;
import java.util.Set;
import java.util.TreeSet;
import java.util.regex.Matcher;
import java.util.regex.Pattern;

/** The face of the class, what can be seen of the rules of LANGUAGE.md in its source, and the room that its calls take. */
public final class LanguageTest {
    private static final String[] METHODS = {
        "int node(int,int,int,int)", "int define(int,int,int,int)", "int size(int)", "int setOption(int,int)",
        "int setBudget(int)", "int write(int,int)", "int run(int)", "int tried(int)", "int triedSteps(int)", "void start(int)",
        "int step(int)", "int giveUp()", "boolean breakAt(int,boolean)", "int next()", "int look(int)", "int active()",
        "int outcome()", "int steps()", "int cause()", "int traced()", "int traceAt(int)", "int buffer()", "int length(int)",
        "int letter(int,int)", "int cursor(int,int)", "int activeCursor(int)", "int option(int)", "int register(int)",
        "int body(int)", "int hook()"};
    private static final String[] KINDS = {
        "NUMBER", "NAME", "LET", "PUT", "SUM", "MINUS", "TIMES", "OVER", "BELOW", "SAME", "IF", "THEN", "SCOPE", "LOOP", "BREAK",
        "NEXT", "FUNCTION", "APPLY", "CALL", "RETURN", "TRY", "FINALLY", "THROW", "GENERATOR", "YIELD", "ASK", "OPTION", "GET",
        "STAY", "INSERT", "ERASE", "MOVE", "HERE", "LETTER", "LENGTH", "CURSOR", "EACH", "BUFFER", "RELOAD", "HOOK"};
    private static final String[] ERRORS = {"UNBOUND", "ZERO", "TYPE", "RANGE", "DEPTH", "ASTRAY", "BUDGET"};

    private static int checks = 0;
    private static int wrong = 0;

    public static void main(String[] args) throws IOException, IllegalAccessException {
        face();
        constants();
        inside();
        source(bare(Files.readString(Path.of("src/main/java/Macroloom.java"))));
        room();
        System.out.println("LanguageTest: " + checks + " checks, " + wrong + " wrong");
        System.exit(wrong > 0 ? 1 : 0);
    }

    private static void holds(boolean fine, String what) {
        checks++;
        if (!fine) {
            wrong++;
            System.out.println(what);
        }
    }

    private static String signature(Method method) {
        List<String> types = new ArrayList<>();
        for (Class<?> type : method.getParameterTypes()) {
            types.add(type.getSimpleName());
        }
        return method.getReturnType().getSimpleName() + " " + method.getName() + "(" + String.join(",", types) + ")";
    }

    private static void face() {
        Class<?> face = Macroloom.class;
        holds(Modifier.isPublic(face.getModifiers()) && Modifier.isFinal(face.getModifiers()), "the class is not public and final");
        Set<String> due = new TreeSet<>(Arrays.asList(METHODS));
        Set<String> got = new TreeSet<>();
        for (Method method : face.getDeclaredMethods()) {
            if (!Modifier.isPrivate(method.getModifiers()) && !method.isSynthetic()) {
                got.add(signature(method));
                holds(Modifier.isPublic(method.getModifiers()) && !Modifier.isStatic(method.getModifiers()), method + " is not of the face");
            }
        }
        holds(got.equals(due), "the face has " + got + ", due is " + due);
        Constructor<?>[] constructors = face.getDeclaredConstructors();
        holds(constructors.length == 1 && Modifier.isPublic(constructors[0].getModifiers()) && constructors[0].getParameterCount() == 0,
            "the constructor is not that of the face");
    }

    private static void constants() throws IllegalAccessException {
        List<String> due = new ArrayList<>();
        due.add("NONE=-1");
        for (int i = 0; i < KINDS.length; i++) {
            due.add(KINDS[i] + "=" + i);
        }
        for (int i = 0; i < ERRORS.length; i++) {
            due.add(ERRORS[i] + "=" + (-1 - i));
        }
        Set<String> got = new TreeSet<>();
        for (Field field : Macroloom.class.getDeclaredFields()) {
            int modifiers = field.getModifiers();
            if (!Modifier.isPrivate(modifiers) && !field.isSynthetic()) {
                holds(Modifier.isPublic(modifiers) && Modifier.isStatic(modifiers) && Modifier.isFinal(modifiers), field + " is no constant");
                got.add(field.getName() + "=" + field.getInt(null));
            }
        }
        holds(got.equals(new TreeSet<>(due)), "the constants are " + got + ", due are " + due);
    }

    private static void inside() {
        Class<?>[] classes = Macroloom.class.getDeclaredClasses();
        holds(classes.length <= 14, "more than some 12 classes");
        Set<String> names = new TreeSet<>();
        for (Method method : Macroloom.class.getDeclaredMethods()) {
            if (Modifier.isPublic(method.getModifiers())) {
                names.add(method.getName());
            }
        }
        for (Method method : Macroloom.class.getDeclaredMethods()) {
            holds(Modifier.isPublic(method.getModifiers()) || method.isSynthetic() || !names.contains(method.getName()), method + " bears a public name");
        }
        for (Class<?> inner : classes) {
            int modifiers = inner.getModifiers();
            holds(!Modifier.isPublic(modifiers) && !Modifier.isProtected(modifiers), inner + " is public or protected");
            int fields = 0;
            for (Field field : inner.getDeclaredFields()) {
                holds(!Modifier.isStatic(field.getModifiers()) || Modifier.isFinal(field.getModifiers()), field + " is static state");
                fields += field.isSynthetic() || Modifier.isStatic(field.getModifiers()) ? 0 : 1;
            }
            holds(fields <= 23, inner + " has more than some twenty fields: " + fields);
            for (Method method : inner.getDeclaredMethods()) {
                holds(!Modifier.isPrivate(method.getModifiers()) || method.isSynthetic() || !names.contains(method.getName()), method + " bears a public name");
                holds(method.getParameterCount() <= 7, method + " has too many parameters");
            }
        }
    }

    /** The source without comments and texts. */
    private static String bare(String source) {
        String noComments = Pattern.compile("/\\*.*?\\*/", Pattern.DOTALL).matcher(source).replaceAll(match -> match.group().replaceAll("[^\n]", ""));
        return noComments.replaceAll("//[^\n]*", "").replaceAll("\"[^\"\n]*\"", "\"\"");
    }

    private static void source(String source) {
        String[] forbidden = {"\\bfinally\\b", "\\bassert\\b", "\\bsynchronized\\b", "\\bpackage\\b", "::", "try\\s*\\(", "\\bSystem\\.(?!arraycopy)",
            "\\bprotected\\b", "\\bstatic\\s*\\{", "Exact\\b", "\\bMap\\b", "\\bSet\\b", "\\bThread\\b", "\\bRandom\\b", "\"\"\\s*\\+", "\\+\\s*\"\"",
            "\\bwhile\\s*\\(true\\)", "for\\s*\\([^;:)]*;\\s*;", "\\bnative\\b", "\\.get(Message|Class)\\b", "\\bextends\\s+\\w*(Exception|Error|Throwable)\\b"};
        for (String word : forbidden) {
            Matcher matcher = Pattern.compile(word).matcher(source);
            holds(!matcher.find(), "the source has " + word);
        }
        for (String line : source.split("\n")) {
            holds(!line.contains("->") || line.trim().startsWith("case") || line.trim().startsWith("default"), "a lambda: " + line.trim());
        }
        Matcher imports = Pattern.compile("import ([^;]*);").matcher(source);
        while (imports.find()) {
            holds(imports.group(1).matches("java\\.util\\.(Arrays|ArrayList|List|Iterator|NoSuchElementException)"), "the source imports " + imports.group(1));
        }
        Matcher thrown = Pattern.compile("throw ([^;]*);").matcher(source);
        while (thrown.find()) {
            holds(thrown.group(1).matches("new (IndexOutOfBounds|IllegalArgument|IllegalState|Arithmetic|UnsupportedOperation|NoSuchElement|Runtime)(Exception)?\\((\"\")?\\)"),
                "the source throws " + thrown.group(1));
        }
        Matcher caught = Pattern.compile("catch\\s*\\((final )?([\\w |.]*) \\w+\\)").matcher(source);
        while (caught.find()) {
            holds(caught.group(2).matches("(IllegalArgument|IllegalState|UnsupportedOperation)Exception"), "the source may catch what the machine throws: " + caught.group());
        }
        holds(source.chars().allMatch(sign -> sign < 127), "a sign beyond 126");
        lengths(source.split("\n", -1));
    }

    /** Methods of the form of this source: each begins and ends at the same margin. */
    private static void lengths(String[] lines) {
        Pattern head = Pattern.compile("^(    |        )((public|private|static|final) )*[\\w<>\\[\\]]+( \\w+)?\\([^)]*\\)( throws [\\w, ]+)? \\{$");
        for (int i = 0; i < lines.length; i++) {
            Matcher matcher = head.matcher(lines[i]);
            if (!matcher.find()) {
                continue;
            }
            int end = i;
            while (end < lines.length && !lines[end].equals(matcher.group(1) + "}")) {
                end++;
            }
            holds(end - i + 1 <= 65, "a method of " + (end - i + 1) + " lines: " + lines[i].trim());
        }
    }

    // ---- the room: 7.3 million fields and elements for all calls of one run, 4 bytes each at least

    private static final long MOST_BYTES = 4L * 7300000;

    private static void room() {
        due("one object, 512 calls", LanguageTest::oneObject);
        due("as many objects that run as 512 calls can make", LanguageTest::manyObjects);
        due("512 objects", () -> {
            for (int made = 0; made < 512; made++) {
                new Macroloom().buffer();
            }
        });
    }

    private static void due(String what, Runnable calls) {
        ThreadMXBean threads = (ThreadMXBean) ManagementFactory.getThreadMXBean();
        if (!threads.isThreadAllocatedMemorySupported() || !threads.isThreadAllocatedMemoryEnabled()) {
            return;
        }
        calls.run();
        long before = threads.getThreadAllocatedBytes(Thread.currentThread().getId());
        calls.run();
        long bytes = threads.getThreadAllocatedBytes(Thread.currentThread().getId()) - before;
        holds(bytes <= MOST_BYTES, what + " take " + bytes + " bytes");
    }

    /** A loop that makes scopes, functions, generators and letters until the budget ends it, run again and again. */
    private static void oneObject() {
        Macroloom x = new Macroloom();
        x.setBudget(600);
        int one = x.node(Macroloom.NUMBER, 1, -1, -1);
        int function = x.node(Macroloom.FUNCTION, 0, one, -1);
        int applies = x.node(Macroloom.APPLY, function, one, -1);
        int asks = x.node(Macroloom.ASK, x.node(Macroloom.GENERATOR, x.node(Macroloom.YIELD, one, -1, -1), -1, -1), -1, -1);
        int inserts = x.node(Macroloom.TRY, 0, x.node(Macroloom.INSERT, one, -1, -1), one);
        int all = x.node(Macroloom.THEN, applies, x.node(Macroloom.THEN, asks, x.node(Macroloom.EACH, inserts, -1, -1), -1), -1);
        int forever = x.node(Macroloom.LOOP, 0, all, -1);
        for (int call = 14; call < 512; call++) {
            if (call % 2 == 0) {
                x.run(forever);
            } else {
                x.tried(forever);
            }
        }
    }

    private static void manyObjects() {
        for (int made = 0; made < 512 / 3; made++) {
            Macroloom x = new Macroloom();
            x.run(x.node(Macroloom.NUMBER, 1, -1, -1));
        }
    }
}
