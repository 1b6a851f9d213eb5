import java.lang.reflect.Field;
import java.lang.reflect.Member;
import java.lang.reflect.Method;
import java.lang.reflect.Modifier;
import java.nio.file.Files;
import java.nio.file.Path;
import java.util.ArrayList;
import java.util.List;
import java.util.Map;
import java.util.Set;
import java.util.TreeMap;
import java.util.TreeSet;
import java.util.regex.Matcher;
import java.util.regex.Pattern;

/** The public face, and those rules of LANGUAGE.md that can be looked at from outside. */
public final class FaceTest {
    private static final String METHODS = "dancer4 told2 as2 turns2 set3 room3 sweep1 watch1 at1 round1 to2 deal1 seed1 hours1 house1 behind2 "
        + "through0 post2 began2 mended2 meets3 leads3 whose2 fee0 fine1 feed3 trim1 text0 textTold2 why1 sheet3 mark3 pour1 reads1 "
        + "copy5 lay3 ask2 item2 rest2 tell1 check1 keep0 back0 count1";

    private static int wrong = 0;

    private static void due(boolean is, String what) {
        if (is) return;
        wrong++;
        System.out.println("not so: " + what);
    }

    private static void constants() throws Exception {
        Map<String, Integer> want = new TreeMap<>(Map.of("BAD", -1000000001, "NO", -1000000002, "FULL", -1000000003, "NONE", -1000000005,
            "NOTHING", -1000000011, "KIND", -1000000012, "INDEX", -1000000013, "SIZE", -1000000014));
        Map<String, Integer> got = new TreeMap<>();
        for (Field f : SoleWear.class.getDeclaredFields()) {
            if (!Modifier.isPrivate(f.getModifiers())) got.put(f.getName(), f.getInt(null));
        }
        due(want.equals(got), "the constants are " + got);
    }

    private static void methods() {
        Set<String> got = new TreeSet<>();
        Set<String> hidden = new TreeSet<>();
        Set<String> open = new TreeSet<>();
        for (Method f : SoleWear.class.getDeclaredMethods()) {
            boolean isHidden = Modifier.isPrivate(f.getModifiers());
            (isHidden ? hidden : open).add(f.getName());
            if (isHidden) continue;
            got.add(f.getName() + f.getParameterCount());
            due(Modifier.isPublic(f.getModifiers()) && !Modifier.isStatic(f.getModifiers()), f + " is public, not static");
            due(f.getReturnType() == int.class, f + " gives an int");
            for (Class<?> c : f.getParameterTypes()) due(c == int.class, f + " takes ints");
        }
        due(got.equals(new TreeSet<>(List.of(METHODS.split(" ")))), "the methods are " + got);
        for (Class<?> c : SoleWear.class.getDeclaredClasses()) {
            for (Method f : c.getDeclaredMethods()) hidden.add(f.getName());
        }
        hidden.retainAll(open);
        due(hidden.isEmpty(), "names of the face are borne again: " + hidden);
        due(SoleWear.class.getConstructors().length == 1 && SoleWear.class.getDeclaredConstructors().length == 1, "one constructor");
    }

    private static void classes() {
        due(Modifier.isFinal(SoleWear.class.getModifiers()), "the class is final");
        List<Class<?>> all = new ArrayList<>(List.of(SoleWear.class.getDeclaredClasses()));
        due(all.size() + 1 <= 12, "the file has " + all.size() + " classes inside");
        for (Class<?> c : all) {
            due(Modifier.isStatic(c.getModifiers()), c + " is static");
            due(!Modifier.isPublic(c.getModifiers()) && !Modifier.isProtected(c.getModifiers()), c + " is not open");
        }
        all.add(SoleWear.class);
        for (Class<?> c : all) {
            int fields = 0;
            for (Field f : c.getDeclaredFields()) {
                if (Modifier.isStatic(f.getModifiers())) due(Modifier.isFinal(f.getModifiers()), f + " is final");
                else fields++;
            }
            due(fields <= 20, c + " has " + fields + " fields");
            for (Method f : c.getDeclaredMethods()) due(f.getParameterCount() <= 7, f + " takes at most seven");
            for (Member f : c.getDeclaredMethods()) due(!Set.of("equals", "hashCode", "toString").contains(f.getName()), f + " is ruled out");
        }
    }

    private static void source() throws Exception {
        String text = Files.readString(Path.of("src/main/java/SoleWear.java"));
        due(text.chars().allMatch(c -> c < 128), "plain signs alone");
        String code = text.replaceAll("//.*", "");
        Matcher m = Pattern.compile("\\b(throw|throws|try|catch|synchronized|assert|import|package|double|float|record|enum)\\b|->|::|\\bSystem\\.(?!arraycopy)").matcher(code);
        while (m.find()) due(false, "the source has " + m.group());
        String[] lines = code.split("\n");
        int since = 0;
        boolean isConstructor = false;
        for (int i = 0; i < lines.length; i++) {
            if (lines[i].matches("( {4}| {8})[a-zA-Z].*\\) \\{")) {
                since = i;
                isConstructor = lines[i].matches(" +(public )?[A-Z][A-Za-z]*\\(\\) \\{");
            }
            if (lines[i].matches("( {4}| {8})\\}")) due(i - since <= 60, "the method of line " + (since + 1) + " is short");
            boolean isField = lines[i].matches(" +(private )?final \\S+ \\w+ = new .*;");
            due(!lines[i].contains("new ") || isField || isConstructor, "made once, in a constructor: " + lines[i].trim());
        }
    }

    public static void main(String[] args) throws Exception {
        constants();
        methods();
        classes();
        source();
        System.out.println(wrong == 0 ? "the face is as due" : wrong + " rules are not kept");
        if (wrong != 0) System.exit(1);
    }
}
