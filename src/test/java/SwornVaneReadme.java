import java.io.IOException;
import java.lang.reflect.Field;
import java.lang.reflect.Method;
import java.lang.reflect.Modifier;
import java.nio.file.Files;
import java.nio.file.Path;
import java.util.Set;
import java.util.TreeSet;
import java.util.regex.Matcher;
import java.util.regex.Pattern;

/** What README.md says holds: its example answers as told there; each call, constant and test is named, and no other. */
public final class SwornVaneReadme {
    private static final Pattern EXAMPLE_CALL = Pattern.compile("x\\.(\\w+)\\((.*)\\); +// (-?\\d+|[A-Z]+)\\b.*");

    private static int wrong = 0;

    public static void main(String[] args) throws IOException, ReflectiveOperationException {
        String readme = Files.readString(Path.of("README.md"));
        example(readme);
        calls(readme);
        constants(readme);
        tests(readme);
        System.out.println(wrong == 0 ? "README.md says what is so" : wrong + " things in README.md are not so");
        if (wrong != 0) {
            System.exit(1);
        }
    }

    private static void check(String what, boolean holds) {
        if (!holds) {
            wrong++;
            System.out.println("does not hold: " + what);
        }
    }

    private static void example(String readme) throws ReflectiveOperationException {
        Matcher block = Pattern.compile("```java\n(.*?)```", Pattern.DOTALL).matcher(readme);
        check("there is an example", block.find());
        String[] lines = block.group(1).split("\n");
        check("it makes an object first", lines[0].equals("SwornVane x = new SwornVane();"));
        SwornVane x = new SwornVane();
        for (int i = 1; i < lines.length; i++) {
            Matcher call = EXAMPLE_CALL.matcher(lines[i]);
            check("a call with its answer: " + lines[i], call.matches());
            long got = answer(x, call.group(1), call.group(2));
            check(lines[i] + ", it answered " + got, got == number(call.group(3)));
        }
    }

    private static long answer(SwornVane x, String name, String listed) throws ReflectiveOperationException {
        String[] words = listed.isEmpty() ? new String[0] : listed.split(", ");
        Class<?>[] types = new Class<?>[words.length];
        Object[] numbers = new Object[words.length];
        for (int i = 0; i < words.length; i++) {
            types[i] = int.class;
            numbers[i] = (int) number(words[i]);
        }
        return ((Number) SwornVane.class.getMethod(name, types).invoke(x, numbers)).longValue();
    }

    /** A number, a letter between quotes, or a constant's name. */
    private static long number(String word) throws ReflectiveOperationException {
        if (word.startsWith("'")) {
            return word.charAt(1);
        }
        return Character.isLetter(word.charAt(0)) ? SwornVane.class.getField(word).getInt(null) : Long.parseLong(word);
    }

    private static void calls(String readme) {
        Set<String> there = new TreeSet<>();
        for (Method m : SwornVane.class.getDeclaredMethods()) {
            if (Modifier.isPublic(m.getModifiers())) {
                there.add(m.getName() + " with " + m.getParameterCount());
            }
        }
        Set<String> named = new TreeSet<>();
        Matcher row = Pattern.compile("(?m)^\\| `(\\w+)\\((.*?)\\)` \\|").matcher(readme);
        while (row.find()) {
            int many = row.group(2).isEmpty() ? 0 : row.group(2).split(", ").length;
            check(row.group(1) + " is named once", named.add(row.group(1) + " with " + many));
        }
        check("the calls are " + there + ", named are " + named, there.equals(named));
    }

    private static void constants(String readme) throws IllegalAccessException {
        for (Field f : SwornVane.class.getFields()) {
            Pattern row = Pattern.compile("(?m)^\\| `" + f.getName() + "` \\| " + f.getInt(null) + "\\b");
            check(f.getName() + " is named with its number", row.matcher(readme).find());
        }
    }

    private static void tests(String readme) throws IOException {
        Set<String> there = new TreeSet<>();
        try (var files = Files.list(Path.of("src/test/java"))) {
            files.forEach(file -> there.add(file.getFileName().toString().replace(".java", "")));
        }
        Set<String> named = new TreeSet<>();
        Matcher item = Pattern.compile("(?m)^- `(\\w+)`").matcher(readme);
        while (item.find()) {
            named.add(item.group(1));
        }
        check("the tests are " + there + ", named are " + named, there.equals(named));
        check(".ci/run can be run", Files.isExecutable(Path.of(".ci/run")));
    }
}
