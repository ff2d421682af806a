import java.io.IOException;
import java.lang.management.ManagementFactory;
import java.lang.reflect.Constructor;
import java.lang.reflect.Executable;
import java.lang.reflect.Field;
import java.lang.reflect.Method;
import java.lang.reflect.Modifier;
import java.nio.file.Files;
import java.nio.file.Path;
import java.util.ArrayList;
import java.util.List;
import java.util.Set;
import java.util.TreeSet;
import java.util.regex.Matcher;
import java.util.regex.Pattern;

/** The face of the class, the form that LANGUAGE.md asks for as far as a text tells it, and the room a run takes. */
public final class SwornVaneForm {
    private static int wrong = 0;

    private static void check(String what, boolean holds) {
        if (!holds) {
            wrong++;
            System.out.println("does not hold: " + what);
        }
    }

    public static void main(String[] args) throws IOException {
        face();
        String source = Files.readString(Path.of("src/main/java/SwornVane.java"));
        words(source);
        library(source);
        lengths(source);
        room();
        System.out.println(wrong == 0 ? "the form is as asked" : wrong + " things are not as asked");
        if (wrong != 0) {
            System.exit(1);
        }
    }

    private static final Set<String> FACE = Set.of(
            "int letter(int)", "int blank()", "int fault()", "int day()", "int wind(int,int)",
            "int vane(int,int,int)", "int about(int,int)", "int as(int,int)", "int oil(int,int)",
            "int see(int,int,int)", "int forget()", "int fitting()", "int points(int,int)",
            "int blows(int)", "int ask(int)", "int proof(int,int)", "int sorts(int,int)",
            "int oiling(int,int,int)", "int gusts(int,int,int)", "int image()", "int restore()",
            "int count(int)", "long digest()");

    private static void face() {
        Set<String> found = new TreeSet<>();
        Set<String> names = new TreeSet<>();
        for (Method m : SwornVane.class.getDeclaredMethods()) {
            if (Modifier.isPublic(m.getModifiers())) {
                found.add(m.getReturnType() + " " + m.getName() + parameters(m));
                names.add(m.getName());
            } else {
                check(m.getName() + " is private", Modifier.isPrivate(m.getModifiers()));
            }
        }
        check("the public methods are " + FACE + ", not " + found, found.equals(FACE));
        check("it is final", Modifier.isFinal(SwornVane.class.getModifiers()));
        Constructor<?>[] constructors = SwornVane.class.getDeclaredConstructors();
        check("one constructor, without parameters", constructors.length == 1
                && constructors[0].getParameterCount() == 0 && Modifier.isPublic(constructors[0].getModifiers()));
        Set<String> constants = new TreeSet<>();
        for (Field f : SwornVane.class.getDeclaredFields()) {
            if (!Modifier.isPrivate(f.getModifiers())) {
                constants.add(f.getName());
            }
        }
        check("the constants", constants.equals(Set.of("NONE", "UNKNOWN", "OUTSIDE", "STATE", "FULL")));
        check("at most some twelve classes", SwornVane.class.getDeclaredClasses().length <= 11);
        for (Class<?> inside : SwornVane.class.getDeclaredClasses()) {
            inside(inside, names);
        }
    }

    private static void inside(Class<?> inside, Set<String> publicNames) {
        check(inside + " is static", Modifier.isStatic(inside.getModifiers()));
        check(inside + " has at most twenty fields", inside.getDeclaredFields().length <= 20);
        for (Method m : inside.getDeclaredMethods()) {
            check(inside + "." + m.getName() + " bears no public name", !publicNames.contains(m.getName()));
            check(m + " takes at most seven", m.getParameterCount() <= 7);
        }
        for (Field f : inside.getDeclaredFields()) {
            check(f + " is no static state", !Modifier.isStatic(f.getModifiers()) || Modifier.isFinal(f.getModifiers()));
        }
    }

    private static String parameters(Executable m) {
        List<String> types = new ArrayList<>();
        for (Class<?> type : m.getParameterTypes()) {
            types.add(type.getName());
        }
        return "(" + String.join(",", types) + ")";
    }

    private static void words(String source) {
        String code = withoutComments(source);
        for (String word : List.of("package", "synchronized", "assert", "finally", "native", "volatile",
                "transient", "Object", "System", "Thread", "Random", "hashCode", "toString")) {
            check("no " + word + " stands there", !Pattern.compile("\\b" + word + "\\b").matcher(code).find());
        }
        check("no lambda", !code.contains("->"));
        check("no method reference", !code.contains("::"));
        check("signs 1 to 127", source.chars().allMatch(c -> c > 0 && c < 128));
    }

    private static void library(String source) {
        Matcher calls = Pattern.compile("\\b(Integer|Long|Math|Arrays|String|List|StringBuilder)\\.(\\w+)")
                .matcher(withoutComments(source));
        while (calls.find()) {
            check(calls.group() + " is in the library", Set.of("Integer.bitCount", "Math.max")
                    .contains(calls.group()));
        }
    }

    private static void lengths(String source) {
        String[] lines = source.split("\n");
        String end = "";
        int began = 0;
        int methods = 0;
        for (int i = 0; i < lines.length; i++) {
            Matcher head = Pattern.compile("( {4}| {8})\\w[\\w\\[\\] ]*\\([^;]*\\) \\{").matcher(lines[i]);
            if (head.matches()) {
                began = i;
                end = head.group(1) + "}";
                methods++;
            }
            if (lines[i].equals(end)) {
                check("the method that ends in line " + (i + 1) + " is short", i - began < 60);
                end = "";
            }
            check("line " + (i + 1) + " is short", lines[i].length() <= 120);
        }
        check("methods were found: " + methods, methods > 60);
    }

    private static String withoutComments(String source) {
        return source.replaceAll("(?s)/\\*.*?\\*/", "").replaceAll("//[^\n]*", "");
    }

    /** What an object takes it takes in its constructor; its calls take nothing. */
    private static void room() {
        long one = 0;
        long calls = 0;
        for (int i = 0; i < 300; i++) {
            long first = allocated();
            long start = allocated();
            SwornVane x = new SwornVane();
            long made = allocated();
            useAll(x);
            long used = allocated();
            // a look at the room takes some itself
            one = made - start - (start - first);
            calls = used - made - (start - first);
        }
        check("an object is under 6000 bytes: " + one, one < 6000);
        check("calls make nothing: " + calls, calls <= 0);
    }

    private static void useAll(SwornVane x) {
        for (int i = 0; i < 5; i++) {
            x.letter('?');
        }
        x.letter('n');
        x.fault();
        x.day();
        for (int kind = 1; kind < 5; kind++) {
            x.vane(kind, kind - 1, 1);
            x.about(kind - 1, 10);
            x.as(kind - 1, 3);
        }
        x.image();
        for (int i = 0; i < 3; i++) {
            x.ask(i);
            x.proof(i, 1);
            x.sorts(i, 0);
            x.see(i, i, i);
            x.digest();
        }
        x.restore();
        x.wind(0, 1);
        x.oiling(0, 1, 1);
        x.gusts(2, 7, 0);
        x.oil(1, 2);
        x.forget();
        x.count(3);
        x.blank();
    }

    private static long allocated() {
        return ((com.sun.management.ThreadMXBean) ManagementFactory.getThreadMXBean())
                .getThreadAllocatedBytes(Thread.currentThread().getId());
    }
}
