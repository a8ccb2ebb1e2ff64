import java.io.IOException;
import java.lang.management.ManagementFactory;
import java.lang.reflect.Constructor;
import java.lang.reflect.Field;
import java.lang.reflect.Method;
import java.lang.reflect.Modifier;
import java.nio.file.Files;
import java.nio.file.Path;
import java.util.Arrays;
import java.util.Set;
import java.util.TreeSet;
import java.util.regex.Matcher;
import java.util.regex.Pattern;

/** The face of the class, and those rules of the language that can be seen from outside or in the source. */
public final class RulesTest {
    private static final Path SOURCE = Path.of("src/main/java/WordFlasher.java");
    private static final Set<String> FACE = Set.of("append(int)", "cut(int)", "word(int,int)", "sentence(int,int)",
        "page(int,int)", "count(int)", "set(int,int)", "speed(int,int)", "run(int)", "back()", "jump(int)", "goBack()",
        "ifRun(int)", "left()", "undo()", "note(int,int)", "unnote(int)", "noted(int,int)", "longest(int)",
        "speedFor(int,int)", "order(int)", "clearOrders()", "fault()", "carry()");
    private static final Set<String> CONSTANTS = Set.of("INVALID_ARGUMENT", "NOT_POSSIBLE", "LIMIT_REACHED",
        "NOT_FOUND");

    /** What the class uses of the library that LANGUAGE.md lists, beside the clone of an array. */
    private static final Set<String> LIBRARY = Set.of("Math.max", "Math.min", "System.arraycopy");

    private static final Dues DUES = new Dues();

    private RulesTest() {
    }

    public static void main(String[] args) throws IOException {
        face();
        insideClasses();
        source(Files.readString(SOURCE));
        room();
        DUES.end();
    }

    private static boolean hidden(int modifiers) {
        return Modifier.isPrivate(modifiers);
    }

    private static void face() {
        Class<?> type = WordFlasher.class;
        DUES.holds("the class is public and final",
            Modifier.isPublic(type.getModifiers()) && Modifier.isFinal(type.getModifiers()));
        Set<String> methods = new TreeSet<>();
        Set<String> names = new TreeSet<>();
        for (Method m : type.getDeclaredMethods()) {
            if (!hidden(m.getModifiers())) {
                methods.add(signature(m));
                names.add(m.getName());
                DUES.holds(m + " is public, an int and not static", Modifier.isPublic(m.getModifiers())
                    && m.getReturnType() == int.class && !Modifier.isStatic(m.getModifiers()));
            }
        }
        DUES.holds("the methods are those of the face: " + methods, methods.equals(FACE));
        for (Class<?> c : classes()) {
            for (Method m : c.getDeclaredMethods()) {
                DUES.holds(m + " bears no name of the face",
                    !names.contains(m.getName()) || Modifier.isPublic(m.getModifiers()));
                DUES.holds(m + " takes at most seven parameters", m.getParameterCount() <= 7);
            }
        }
        Set<String> constants = new TreeSet<>();
        for (Field f : type.getDeclaredFields()) {
            if (!hidden(f.getModifiers())) {
                constants.add(f.getName());
                DUES.holds(f + " is a constant", Modifier.isPublic(f.getModifiers())
                    && Modifier.isStatic(f.getModifiers()) && Modifier.isFinal(f.getModifiers()));
            }
        }
        DUES.holds("the constants are those of the face: " + constants, constants.equals(CONSTANTS));
        Constructor<?>[] made = type.getDeclaredConstructors();
        DUES.holds("one public constructor without parameters", made.length == 1
            && Modifier.isPublic(made[0].getModifiers()) && made[0].getParameterCount() == 0);
        DUES.due("INVALID_ARGUMENT", WordFlasher.INVALID_ARGUMENT, -1);
        DUES.due("NOT_POSSIBLE", WordFlasher.NOT_POSSIBLE, -2);
        DUES.due("LIMIT_REACHED", WordFlasher.LIMIT_REACHED, -3);
        DUES.due("NOT_FOUND", WordFlasher.NOT_FOUND, -4);
    }

    private static String signature(Method m) {
        StringBuilder s = new StringBuilder(m.getName()).append('(');
        for (Class<?> p : m.getParameterTypes()) {
            s.append(s.charAt(s.length() - 1) == '(' ? "" : ",").append(p.getName());
        }
        return s.append(')').toString();
    }

    private static Class<?>[] classes() {
        Class<?>[] inside = WordFlasher.class.getDeclaredClasses();
        Class<?>[] all = Arrays.copyOf(inside, inside.length + 1);
        all[inside.length] = WordFlasher.class;
        return all;
    }

    private static void insideClasses() {
        DUES.holds("at most twelve classes", classes().length <= 12);
        for (Class<?> c : classes()) {
            int own = 0;
            for (Field f : c.getDeclaredFields()) {
                DUES.holds(f + ": static fields are final",
                    !Modifier.isStatic(f.getModifiers()) || Modifier.isFinal(f.getModifiers()));
                own += Modifier.isStatic(f.getModifiers()) ? 0 : 1;
            }
            DUES.holds(c + " has at most twenty fields", own <= 20);
            if (c != WordFlasher.class) {
                DUES.holds(c + " is static and not public", Modifier.isStatic(c.getModifiers())
                    && !Modifier.isPublic(c.getModifiers()) && !Modifier.isProtected(c.getModifiers()));
            }
        }
    }

    private static void source(String source) {
        String bare = source.replaceAll("(?s)/\\*.*?\\*/", " ").replaceAll("//[^\n]*", " ");
        for (String word : new String[] {"throw", "throws", "try", "catch", "finally", "synchronized", "assert",
            "import", "package", "equals", "hashCode", "toString", "Exact", "float", "double"}) {
            DUES.holds("no " + word, !Pattern.compile("\\b" + word + "\\b").matcher(bare).find());
        }
        Matcher library = Pattern.compile("\\b(?:Integer|Long|Math|System|Arrays|Character|String|Object)\\b[.\\w]*")
            .matcher(bare);
        while (library.find()) {
            DUES.holds(library.group() + " is of the library that may be used", LIBRARY.contains(library.group()));
        }
        DUES.holds("no lambda, no method reference", !bare.contains("->") && !bare.contains("::"));
        DUES.holds("no texts", !bare.contains("\"\"") && !bare.replace("'\"'", "").contains("\""));
        DUES.holds("signs 1 to 127 alone", source.chars().allMatch(c -> c >= 1 && c <= 127));
        methodLengths(source.split("\n"));
    }

    /** A method begins with a line that ends in " {" at the depth of a class's members and ends at its brace. */
    private static void methodLengths(String[] lines) {
        Pattern begin = Pattern.compile("^( {4}| {8})[a-zA-Z].*\\) \\{$");
        for (int i = 0; i < lines.length; i++) {
            Matcher m = begin.matcher(lines[i]);
            if (m.matches() && !lines[i].matches(" *(if|for|while|switch) .*")) {
                int end = i;
                while (end < lines.length && !lines[end].equals(m.group(1) + "}")) {
                    end++;
                }
                DUES.holds("some sixty lines at most: " + lines[i].trim(), end - i < 60);
            }
        }
    }

    /** All calls of one run live in one room, so the calls make no objects. */
    private static void room() {
        com.sun.management.ThreadMXBean threads =
            (com.sun.management.ThreadMXBean) ManagementFactory.getThreadMXBean();
        allCalls(new WordFlasher());
        WordFlasher x = new WordFlasher();
        long thread = Thread.currentThread().getId();
        threads.getThreadAllocatedBytes(thread);
        long before = threads.getThreadAllocatedBytes(thread);
        int calls = allCalls(x);
        long made = threads.getThreadAllocatedBytes(thread) - before;
        DUES.holds(calls + " calls made " + made + " bytes", made < 4096);
    }

    private static int allCalls(WordFlasher x) {
        int calls = 0;
        for (int i = 0; i < 250; i++) {
            x.append(i % 5 == 3 ? '.' : i % 5 == 4 ? ' ' : 'a' + i % 3);
            x.run(5);
            x.back();
            x.jump(i / 5);
            x.goBack();
            x.note(i % 5, 1 + i % 9);
            x.unnote(i % 3);
            x.noted(0, 0);
            x.longest(i % 9);
            x.speedFor(0, 500);
            x.ifRun(100);
            x.left();
            x.set(0, 1 + i % 50);
            x.speed(i % 3, 60);
            x.word(0, i % 11);
            x.sentence(0, i % 4);
            x.page(0, i % 4);
            x.count(i % 33);
            x.order(i % 2 == 0 ? 'b' : ';');
            x.fault();
            x.carry();
            calls += 21;
            if (i % 20 == 19) {
                x.undo();
                x.cut(1);
                x.clearOrders();
                calls += 3;
            }
        }
        return calls;
    }
}
