import java.io.IOException;
import java.lang.management.ManagementFactory;
import java.lang.reflect.Field;
import java.lang.reflect.Method;
import java.lang.reflect.Modifier;
import java.nio.file.Files;
import java.nio.file.Path;
import java.util.Arrays;
import java.util.List;
import java.util.Set;
import java.util.TreeSet;
import java.util.regex.Pattern;

/** The document's face, and those rules of LANGUAGE.md that a machine can look for. */
public final class LanguageTest {
    private static final Path SOURCE = Path.of("src/main/java/OneTricycle.java");
    private static final List<String> FACE = List.of("int write(int)", "int wipe()", "int fault()", "int garden()",
        "int about(int)", "int child(int,int)", "int minute()", "int give(int,int)", "int push(int)", "int call(int)",
        "int rule(int,int)", "int put()", "int undo()", "int ahead(int,int)", "int by(int,int,int,int)",
        "int bestLength(int,int)", "int bestRule(int)", "int first(int)", "int second(int)", "int judge(int,int)",
        "int share(int,boolean)", "int see(int,int)", "int unsee()", "int may()", "int rests(int,int,int)",
        "int chance(int,int,int,boolean)", "long seed(long)", "int days(int)", "int keep(int)", "int again(int)");

    public static void main(String[] args) throws IOException {
        face();
        constants();
        fieldsAndMethods();
        words();
        nothingIsMade();
        Check.end("LanguageTest");
    }

    private static String signature(Method method) {
        StringBuilder told = new StringBuilder(method.getReturnType() + " " + method.getName() + "(");
        String comma = "";
        for (Class<?> parameter : method.getParameterTypes()) {
            told.append(comma).append(parameter);
            comma = ",";
        }
        return told + ")";
    }

    private static void face() {
        Class<?> type = OneTricycle.class;
        Check.holds("public and final", Modifier.isPublic(type.getModifiers()) && Modifier.isFinal(type.getModifiers()));
        Check.due("constructors", type.getDeclaredConstructors().length, 1);
        Check.holds("a public one", type.getConstructors().length == 1);
        Set<String> found = new TreeSet<>();
        Set<String> names = new TreeSet<>();
        for (Method method : type.getDeclaredMethods()) {
            if (!Modifier.isPrivate(method.getModifiers())) {
                found.add(signature(method));
                names.add(method.getName());
                Check.holds("public: " + method, Modifier.isPublic(method.getModifiers()));
                Check.holds("not static: " + method, !Modifier.isStatic(method.getModifiers()));
            }
        }
        Check.same("the face", found.toString(), new TreeSet<>(FACE).toString());
        for (Class<?> one : allClasses()) {
            for (Method method : one.getDeclaredMethods()) {
                if (Modifier.isPrivate(method.getModifiers())) {
                    Check.holds("no private method with a public one's name: " + method, !names.contains(method.getName()));
                }
            }
        }
    }

    private static void constants() {
        Check.due("UNKNOWN", OneTricycle.UNKNOWN, -1);
        Check.due("BAD", OneTricycle.BAD, -2);
        Check.due("LATE", OneTricycle.LATE, -3);
        Check.due("FULL", OneTricycle.FULL, -4);
        Check.due("NONE", OneTricycle.NONE, -9);
        Set<String> found = new TreeSet<>();
        for (Field field : OneTricycle.class.getDeclaredFields()) {
            if (!Modifier.isPrivate(field.getModifiers())) {
                found.add(field.getName());
            }
        }
        Check.same("constants", found.toString(), "[BAD, FULL, LATE, NONE, UNKNOWN]");
    }

    private static List<Class<?>> allClasses() {
        List<Class<?>> all = new java.util.ArrayList<>(Arrays.asList(OneTricycle.class.getDeclaredClasses()));
        all.add(OneTricycle.class);
        return all;
    }

    private static void fieldsAndMethods() {
        Check.holds("some twelve classes at most", allClasses().size() <= 12);
        for (Class<?> type : allClasses()) {
            Check.holds("static: " + type, type == OneTricycle.class || Modifier.isStatic(type.getModifiers()));
            long fields = Arrays.stream(type.getDeclaredFields()).filter(one -> !Modifier.isStatic(one.getModifiers())).count();
            Check.holds("some twenty fields at most: " + type, fields <= 20);
            for (Field field : type.getDeclaredFields()) {
                Check.holds("static fields are final: " + field,
                    !Modifier.isStatic(field.getModifiers()) || Modifier.isFinal(field.getModifiers()));
            }
            for (Method method : type.getDeclaredMethods()) {
                Check.holds("seven parameters at most: " + method, method.getParameterCount() <= 7);
            }
        }
    }

    private static void words() throws IOException {
        String code = Files.readString(SOURCE).replaceAll("(?s)/\\*.*?\\*/", " ").replaceAll("//[^\n]*", " ");
        String[] forbidden = {"throw", "throws", "try", "catch", "finally", "synchronized", "assert", "import", "package",
            "Object", "Exception", "Random", "System", "Thread", "hashCode", "equals", "protected", "volatile", "native"};
        for (String word : forbidden) {
            Check.holds("no '" + word + "' in the code", !Pattern.compile("\\b" + word + "\\b").matcher(code).find());
        }
        Check.holds("no lambda, no method reference", !code.contains("->") && !code.contains("::"));
        Check.holds("no function whose name ends in Exact", !code.contains("Exact("));
        Check.holds("no text", code.indexOf('"') < 0);
        Check.holds("no while: every loop counts", !Pattern.compile("\\bwhile\\b").matcher(code).find());
        int lines = 0;
        for (String line : Files.readString(SOURCE).split("\n")) {
            lines = line.matches(" {4}( {4})?}") ? 0 : lines + 1;
            boolean inMethod = line.startsWith("        ");
            Check.holds("methods of some sixty lines at most: " + line, !inMethod || lines <= 62);
        }
    }

    /** All calls of a run live in one room, so no call makes an object. */
    private static void nothingIsMade() {
        if (!(ManagementFactory.getThreadMXBean() instanceof com.sun.management.ThreadMXBean beans)) {
            return;
        }
        OneTricycle x = Check.garden("T022C950C631C772C813C390");
        long thread = Thread.currentThread().getId();
        everyCall(x);
        long before = beans.getThreadAllocatedBytes(thread);
        long idle = beans.getThreadAllocatedBytes(thread) - before;
        before = beans.getThreadAllocatedBytes(thread);
        everyCall(x);
        long made = beans.getThreadAllocatedBytes(thread) - before - idle;
        Check.due("bytes made by calls", made, 0);
    }

    private static void everyCall(OneTricycle x) {
        x.fault();
        x.garden();
        x.minute();
        x.give(0, 4);
        x.push(4);
        x.call(4);
        x.rule(2, 3);
        x.put();
        x.undo();
        x.about(7);
        x.child(0, 0);
        x.ahead(60, 1);
        x.by(1, 1, 60, 2);
        x.bestLength(1, 30);
        x.bestRule(30);
        x.first(2);
        x.second(30);
        x.judge(4, 0);
        x.share(1, true);
        x.see(0, 20);
        x.may();
        x.unsee();
        x.rests(0, 1, 0);
        x.chance(0, 6, 5, true);
        x.seed(1);
        x.days(30);
        x.keep(0);
        x.again(0);
    }
}
