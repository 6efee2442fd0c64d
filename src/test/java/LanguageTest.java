import java.io.IOException;
import java.lang.reflect.Constructor;
import java.lang.reflect.Field;
import java.lang.reflect.Method;
import java.lang.reflect.Modifier;
import java.nio.file.Files;
import java.nio.file.Path;
import java.util.ArrayList;
import java.util.Arrays;
import java.util.List;
import java.util.Set;
import java.util.TreeSet;
import java.util.regex.Matcher;
import java.util.regex.Pattern;

/** The face of the class, and what can be seen of the rules of LANGUAGE.md in its source. */
public final class LanguageTest {
    private static final String[] METHODS = {
        "int node(int,int,int,int)", "int define(int,int,int,int)", "int size(int)", "int setOption(int,int)",
        "int setBudget(int)", "int write(int,int)", "int run(int)", "int tried(int)", "int triedSteps(int)", "void start(int)",
        "int step(int)", "int giveUp()", "boolean breakAt(int,boolean)", "int next()", "int look(int)", "int active()",
        "int outcome()", "int steps()", "int cause()", "int traced()", "int traceAt(int)", "int buffer()", "int length(int)",
        "int letter(int,int)", "int cursor(int,int)", "int activeCursor(int)", "int option(int)", "int register(int)",
        "int body(int)", "int hook()"};
    private static final String[] KINDS = {
        "NUMBER", "NAME", "LET", "PUT", "SUM", "MINUS", "TIMES", "OVER", "BELOW", "SAME", "IF", "THEN", "SCOPE", "LOOP", "BREAK",
        "NEXT", "FUNCTION", "APPLY", "CALL", "RETURN", "TRY", "FINALLY", "THROW", "GENERATOR", "YIELD", "ASK", "OPTION", "GET",
        "STAY", "INSERT", "ERASE", "MOVE", "HERE", "LETTER", "LENGTH", "CURSOR", "EACH", "BUFFER", "RELOAD", "HOOK"};
    private static final String[] ERRORS = {"UNBOUND", "ZERO", "TYPE", "RANGE", "DEPTH", "ASTRAY", "BUDGET"};

    private static int checks = 0;
    private static int wrong = 0;

    public static void main(String[] args) throws IOException, IllegalAccessException {
        face();
        constants();
        inside();
        source(bare(Files.readString(Path.of("src/main/java/Macroloom.java"))));
        System.out.println("LanguageTest: " + checks + " checks, " + wrong + " wrong");
        System.exit(wrong > 0 ? 1 : 0);
    }

    private static void holds(boolean fine, String what) {
        checks++;
        if (!fine) {
            wrong++;
            System.out.println(what);
        }
    }

    private static String signature(Method method) {
        List<String> types = new ArrayList<>();
        for (Class<?> type : method.getParameterTypes()) {
            types.add(type.getSimpleName());
        }
        return method.getReturnType().getSimpleName() + " " + method.getName() + "(" + String.join(",", types) + ")";
    }

    private static void face() {
        Class<?> face = Macroloom.class;
        holds(Modifier.isPublic(face.getModifiers()) && Modifier.isFinal(face.getModifiers()), "the class is not public and final");
        Set<String> due = new TreeSet<>(Arrays.asList(METHODS));
        Set<String> got = new TreeSet<>();
        for (Method method : face.getDeclaredMethods()) {
            if (!Modifier.isPrivate(method.getModifiers()) && !method.isSynthetic()) {
                got.add(signature(method));
                holds(Modifier.isPublic(method.getModifiers()) && !Modifier.isStatic(method.getModifiers()), method + " is not of the face");
            }
        }
        holds(got.equals(due), "the face has " + got + ", due is " + due);
        Constructor<?>[] constructors = face.getDeclaredConstructors();
        holds(constructors.length == 1 && Modifier.isPublic(constructors[0].getModifiers()) && constructors[0].getParameterCount() == 0,
            "the constructor is not that of the face");
    }

    private static void constants() throws IllegalAccessException {
        List<String> due = new ArrayList<>();
        due.add("NONE=-1");
        for (int i = 0; i < KINDS.length; i++) {
            due.add(KINDS[i] + "=" + i);
        }
        for (int i = 0; i < ERRORS.length; i++) {
            due.add(ERRORS[i] + "=" + (-1 - i));
        }
        Set<String> got = new TreeSet<>();
        for (Field field : Macroloom.class.getDeclaredFields()) {
            int modifiers = field.getModifiers();
            if (!Modifier.isPrivate(modifiers) && !field.isSynthetic()) {
                holds(Modifier.isPublic(modifiers) && Modifier.isStatic(modifiers) && Modifier.isFinal(modifiers), field + " is no constant");
                got.add(field.getName() + "=" + field.getInt(null));
            }
        }
        holds(got.equals(new TreeSet<>(due)), "the constants are " + got + ", due are " + due);
    }

    private static void inside() {
        Class<?>[] classes = Macroloom.class.getDeclaredClasses();
        holds(classes.length <= 11, "more than 12 classes");
        Set<String> names = new TreeSet<>();
        for (Method method : Macroloom.class.getDeclaredMethods()) {
            if (Modifier.isPublic(method.getModifiers())) {
                names.add(method.getName());
            }
        }
        for (Method method : Macroloom.class.getDeclaredMethods()) {
            holds(Modifier.isPublic(method.getModifiers()) || method.isSynthetic() || !names.contains(method.getName()), method + " bears a public name");
        }
        for (Class<?> inner : classes) {
            int modifiers = inner.getModifiers();
            holds(Modifier.isStatic(modifiers) && !Modifier.isPublic(modifiers) && !Modifier.isProtected(modifiers), inner + " is not static, or public");
            int fields = 0;
            for (Field field : inner.getDeclaredFields()) {
                holds(!Modifier.isStatic(field.getModifiers()) || Modifier.isFinal(field.getModifiers()), field + " is static state");
                fields += field.isSynthetic() || Modifier.isStatic(field.getModifiers()) ? 0 : 1;
            }
            holds(fields <= 20, inner + " has " + fields + " fields");
            for (Method method : inner.getDeclaredMethods()) {
                holds(method.isSynthetic() || !names.contains(method.getName()), method + " bears a public name");
                holds(method.getParameterCount() <= 7, method + " has too many parameters");
            }
        }
    }

    /** The source without comments and texts. */
    private static String bare(String source) {
        String noComments = Pattern.compile("/\\*.*?\\*/", Pattern.DOTALL).matcher(source).replaceAll(match -> match.group().replaceAll("[^\n]", ""));
        return noComments.replaceAll("//[^\n]*", "").replaceAll("\"[^\"\n]*\"", "\"\"");
    }

    private static void source(String source) {
        String[] forbidden = {"\\btry\\b", "\\bcatch\\b", "\\bfinally\\b", "\\bassert\\b", "\\bsynchronized\\b", "\\bpackage\\b", "->", "::",
            "\\binstanceof\\b", "\\bSystem\\.(?!arraycopy)", "\\bObject\\b", "\\bprotected\\b", "\\bstatic\\s*\\{", "Exact\\b", "\\bMap\\b", "\\bSet\\b",
            "\\bThread\\b", "\\bRandom\\b", "\"\"\\s*\\+", "\\+\\s*\"\"", "@", "\\bwhile\\s*\\(true\\)", "for\\s*\\(;;"};
        for (String word : forbidden) {
            Matcher matcher = Pattern.compile(word).matcher(source);
            holds(!matcher.find(), "the source has " + word);
        }
        Matcher imports = Pattern.compile("import ([^;]*);").matcher(source);
        while (imports.find()) {
            holds(imports.group(1).equals("java.util.Arrays"), "the source imports " + imports.group(1));
        }
        Matcher thrown = Pattern.compile("throw ([^;]*);").matcher(source);
        while (thrown.find()) {
            holds(thrown.group(1).matches("new (IndexOutOfBounds|IllegalArgument|IllegalState)Exception\\(\"\"\\)"), "the source throws " + thrown.group(1));
        }
        holds(source.chars().allMatch(sign -> sign < 127), "a sign beyond 126");
        loops(source);
        lengths(source.split("\n", -1));
    }

    /** Each loop counts up or down against a bound. */
    private static void loops(String source) {
        holds(!Pattern.compile("\\b(while|do)\\b").matcher(source).find(), "a loop without a counter");
        Matcher loops = Pattern.compile("for \\(([^;]*); ([^;]*); ([^)]*)\\)").matcher(source);
        int counted = 0;
        while (loops.find()) {
            counted++;
            holds(loops.group(1).matches("int \\w+ = .*") && loops.group(2).matches("\\w+ (<|<=|>|>=) .*") && loops.group(3).matches("\\w+(\\+\\+|--)"),
                "the loop for (" + loops.group() + " has no counter");
        }
        holds(counted == Pattern.compile("\\bfor\\b").matcher(source).results().count(), "a loop of another form");
    }

    /** Methods of the form of this source: each begins and ends at the same margin. */
    private static void lengths(String[] lines) {
        Pattern head = Pattern.compile("^(    |        )((public|private|static|final) )*[\\w<>\\[\\]]+( \\w+)?\\([^)]*\\)( throws [\\w, ]+)? \\{$");
        int methods = 0;
        for (int i = 0; i < lines.length; i++) {
            Matcher matcher = head.matcher(lines[i]);
            if (!matcher.find()) {
                continue;
            }
            methods++;
            int end = i;
            while (end < lines.length && !lines[end].equals(matcher.group(1) + "}")) {
                end++;
            }
            holds(end - i + 1 <= 60, "a method of " + (end - i + 1) + " lines: " + lines[i].trim());
        }
        holds(methods > 50, "methods are not found");
    }
}
