import java.lang.reflect.Method;
import java.lang.reflect.Modifier;
import java.nio.file.Files;
import java.nio.file.Path;
import java.util.Arrays;
import java.util.regex.Matcher;
import java.util.regex.Pattern;

/** What README.md shows: each line of its examples answers what stands behind it, and each call and constant is named. */
public final class ReadmeTest {
    private static final Pattern CALL = Pattern.compile("house\\.(\\w+)\\(([^)]*)\\);\\s*// (-?\\w+): .*");
    private static final String MADE = "SoleWear house = new SoleWear();";

    private static int looked = 0;
    private static int wrong = 0;

    private static void due(boolean is, String what) {
        looked++;
        if (is) return;
        wrong++;
        System.out.println("README.md: " + what);
    }

    private static int number(String told) throws Exception {
        if (told.matches("[A-Z]+")) return SoleWear.class.getField(told).getInt(null);
        return Integer.decode(told);
    }

    private static int answer(SoleWear house, String name, String told) throws Exception {
        String[] parts = told.isEmpty() ? new String[0] : told.split(", ");
        Class<?>[] types = new Class<?>[parts.length];
        Arrays.fill(types, int.class);
        Object[] numbers = new Object[parts.length];
        for (int i = 0; i < parts.length; i++) numbers[i] = number(parts[i]);
        return (Integer) SoleWear.class.getMethod(name, types).invoke(house, numbers);
    }

    private static void examples(String page) throws Exception {
        Matcher example = Pattern.compile("```java\n(.*?)```", Pattern.DOTALL).matcher(page);
        int many = 0;
        while (example.find()) {
            many++;
            String[] lines = example.group(1).split("\n");
            due(lines[0].equals(MADE), "an example begins: " + lines[0]);
            SoleWear house = new SoleWear();
            for (int i = 1; i < lines.length; i++) {
                Matcher m = CALL.matcher(lines[i]);
                if (!m.matches()) {
                    due(false, "not a call with its answer: " + lines[i]);
                    continue;
                }
                int got = answer(house, m.group(1), m.group(2));
                due(got == number(m.group(3)), lines[i] + " answered " + got);
            }
        }
        due(many > 0, "there are no examples");
    }

    private static void names(String page) {
        for (Method f : SoleWear.class.getDeclaredMethods()) {
            if (Modifier.isPublic(f.getModifiers())) due(page.contains("`" + f.getName() + "`"), "does not name " + f.getName());
        }
        for (var f : SoleWear.class.getFields()) due(page.contains("`" + f.getName() + "`"), "does not name " + f.getName());
    }

    private static void tests(String page) throws Exception {
        try (var files = Files.list(Path.of("src/test/java"))) {
            for (Path file : files.toList()) {
                String name = file.getFileName().toString().replace(".java", "");
                if (name.endsWith("Test")) due(page.contains("`" + name + "`"), "does not name " + name);
            }
        }
    }

    public static void main(String[] args) throws Exception {
        String page = Files.readString(Path.of("README.md"));
        examples(page);
        names(page);
        tests(page);
        System.out.println(looked + " things of README.md looked at, " + wrong + " are not so");
        if (wrong != 0) System.exit(1);
    }
}
