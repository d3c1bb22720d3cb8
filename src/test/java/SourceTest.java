import java.io.IOException;
import java.lang.reflect.Constructor;
import java.lang.reflect.Field;
import java.lang.reflect.Method;
import java.lang.reflect.Modifier;
import java.nio.file.Files;
import java.nio.file.Path;
import java.util.ArrayList;
import java.util.List;
import java.util.TreeSet;
import java.util.regex.Matcher;
import java.util.regex.Pattern;

/** The face of the document, the room of a run, and the rules of ../shared/LANGUAGE.md that can be read off. */
final class SourceTest {
    private static final String INDEX = " throws IndexOutOfBoundsException";
    private static final String ARGUMENT = " throws IllegalArgumentException";
    private static final String BOTH = INDEX + ", IllegalArgumentException";
    private static final String[] FACE = {
        "int pressure(int, int)" + BOTH, "int valve(int, boolean)" + INDEX, "int dirt(int, int)" + BOTH,
        "int hydrant(int, int)" + BOTH, "int send(int, int)" + INDEX + ", IllegalStateException",
        "int skip(int)" + INDEX, "int set(int, int)" + BOTH, "int pass(int)" + ARGUMENT,
        "int append(int)" + ARGUMENT + ", IllegalStateException", "int clearBuffer()", "int firstError()",
        "int rounds()" + ARGUMENT, "int undo() throws IllegalStateException", "int street(int, int)" + BOTH,
        "int round(int, int)" + BOTH, "int count(int)" + ARGUMENT, "int setting(int)" + INDEX, "int waits(int)" + INDEX,
        "int ifPassed(int, int)" + ARGUMENT, "int bestStreet()", "int clearIn()", "int leastPressure(int)" + INDEX,
        "double cleanShare()", "long digest()"};
    private static final String[] NEVER = {"->", "::", "\\btry\\b", "\\bcatch\\b", "\\bfinally\\b", "\\bsynchronized\\b",
        "\\bassert\\b", "\\bstatic\\s*\\{", "\\binstanceof\\b", "Exact\\b", "\\bSystem\\.(?!arraycopy\\b)",
        "\\bDouble\\b", "\\bvar\\b", "\\bThread\\b", "\\brandom\\b", "\\bhashCode\\b", "\\btoString\\b", "\\bpackage\\b",
        "_VALUE\\b",
        "while \\(true\\)", "for \\(;;\\)"};
    private static final Pattern METHOD = Pattern.compile("(?ms)^( {4}| {8})(?! )([^\n;=]*\\)[^\n;=]*\\{)\n(.*?)^\\1\\}$");
    private static final int MOST_LINES = 60;
    private static final int MOST_PARAMETERS = 7;
    private static final int MOST_CLASSES = 12;
    private static final int MOST_FIELDS = 20;
    private static final long ROOM_OF_A_RUN = 64 * 1024;

    public static void main(String[] args) throws IOException {
        face();
        language(Files.readString(Path.of("src/main/java/HydrantRounds.java")));
        room();
        Check.ends("SourceTest");
    }

    private static void face() {
        TreeSet<String> due = new TreeSet<>(List.of(FACE));
        TreeSet<String> got = new TreeSet<>();
        for (Method method : HydrantRounds.class.getDeclaredMethods()) {
            if (!Modifier.isPrivate(method.getModifiers())) {
                got.add(told(method));
            }
        }
        Check.isTrue("the face is " + got, due.equals(got));
        Constructor<?>[] constructors = HydrantRounds.class.getDeclaredConstructors();
        Check.same("constructors", 1, constructors.length);
        Check.same("arguments of the constructor", 0, constructors[0].getParameterCount());
        Check.isTrue("it is public", Modifier.isPublic(constructors[0].getModifiers()));
        Check.isTrue("the class is public and final", HydrantRounds.class.getModifiers() == 17);
        for (Field field : HydrantRounds.class.getDeclaredFields()) {
            Check.isTrue(field + " is private", field.getName().equals("NONE") || Modifier.isPrivate(field.getModifiers()));
        }
        classesInside();
    }

    private static void classesInside() {
        TreeSet<String> names = new TreeSet<>();
        for (Method method : HydrantRounds.class.getMethods()) {
            names.add(method.getName());
        }
        Check.isTrue("up to twelve classes", HydrantRounds.class.getDeclaredClasses().length < MOST_CLASSES);
        for (Class<?> inside : HydrantRounds.class.getDeclaredClasses()) {
            Check.isTrue(inside + " is static", Modifier.isStatic(inside.getModifiers()));
            Check.isTrue(inside + " is not public", !Modifier.isPublic(inside.getModifiers()));
            int fields = 0;
            for (Field field : inside.getDeclaredFields()) {
                fields += Modifier.isStatic(field.getModifiers()) ? 0 : 1;
                Check.isTrue(field + " is final", !Modifier.isStatic(field.getModifiers())
                    || Modifier.isFinal(field.getModifiers()));
            }
            Check.isTrue(inside + " has up to twenty fields", fields <= MOST_FIELDS);
            for (Method method : inside.getDeclaredMethods()) {
                Check.isTrue(method + " bears the name of a public one", !names.contains(method.getName()));
                Check.isTrue(method + " has too many parameters", method.getParameterCount() <= MOST_PARAMETERS);
            }
        }
    }

    private static String told(Method method) {
        List<String> types = new ArrayList<>();
        for (Class<?> type : method.getParameterTypes()) {
            types.add(type.getSimpleName());
        }
        List<String> thrown = new ArrayList<>();
        for (Class<?> type : method.getExceptionTypes()) {
            thrown.add(type.getSimpleName());
        }
        return method.getReturnType().getSimpleName() + " " + method.getName() + "(" + String.join(", ", types) + ")"
            + (thrown.isEmpty() ? "" : " throws " + String.join(", ", thrown));
    }

    private static void language(String source) {
        for (char c : source.toCharArray()) {
            Check.isTrue("sign " + (int) c, c >= 1 && c <= 127);
        }
        String code = source.replaceAll("(?s)/\\*.*?\\*/", "").replaceAll("//[^\n]*", "")
            .replaceAll("\"[^\"\n]*\"", "\"\"");
        for (String never : NEVER) {
            Matcher found = Pattern.compile(never).matcher(code);
            Check.isTrue("the source has " + never, !found.find());
        }
        Matcher method = METHOD.matcher(code);
        int methods = 0;
        for (; method.find(); methods++) {
            Check.isTrue("too long: " + method.group(2), method.group(3).lines().count() <= MOST_LINES);
        }
        Check.isTrue("methods were found in the source: " + methods, methods >= FACE.length);
        Matcher imports = Pattern.compile("import ([^;]*);").matcher(code);
        while (imports.find()) {
            Check.isTrue(imports.group(), List.of("java.util.Arrays", "java.util.ArrayList", "java.util.List")
                .contains(imports.group(1)));
        }
    }

    /** What a run makes is made in constructors: the dearest calls make nothing. */
    private static void room() {
        HydrantRounds x = new HydrantRounds();
        dearCalls(x);
        com.sun.management.ThreadMXBean threads =
            (com.sun.management.ThreadMXBean) java.lang.management.ManagementFactory.getThreadMXBean();
        long own = Thread.currentThread().getId();
        long before = threads.getThreadAllocatedBytes(own);
        for (int times = 0; times < 64; times++) {
            dearCalls(x);
        }
        long made = threads.getThreadAllocatedBytes(own) - before;
        Check.isTrue("a run made " + made + " bytes", made < ROOM_OF_A_RUN);
    }

    private static void dearCalls(HydrantRounds x) {
        x.dirt(0, 900);
        x.clearBuffer();
        x.append('a');
        x.append('0');
        x.rounds();
        x.pass(48);
        x.digest();
        x.undo();
    }
}
