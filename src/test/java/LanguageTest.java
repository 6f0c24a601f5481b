import java.lang.reflect.Field;
import java.lang.reflect.Method;
import java.lang.reflect.Modifier;
import java.nio.file.Files;
import java.nio.file.Path;
import java.util.ArrayList;
import java.util.List;
import java.util.Set;
import java.util.TreeSet;
import java.util.regex.Matcher;
import java.util.regex.Pattern;

/** Those rules of LANGUAGE.md that can be seen in the source or by reflection. */
public final class LanguageTest {
    private static final Set<String> THROWN = Set.of("ArrayIndexOutOfBoundsException",
            "IllegalArgumentException", "IllegalStateException");
    private static final Set<Class<?>> CONSTANTS = Set.of(int.class, long.class, boolean.class,
            char.class, String.class, int[].class, long[].class, char[].class, byte[].class);

    public static void main(String[] args) throws Exception {
        Due due = new Due("LanguageTest");
        String source = Files.readString(Path.of("src/main/java/LayerMoisture.java"));
        String code = source.replaceAll("(?s)/\\*.*?\\*/", "").replaceAll("//[^\n]*", "");
        due.is("characters beyond 255", source.chars().filter(c -> c > 255).count(), 0L);
        for (String word : List.of("import ", "package ", "try {", "catch", "finally", "->", "::",
                "assert ", "synchronized", "protected ", "System.", "Exact(", "double[][")) {
            due.is("the code has '" + word + "'", code.contains(word), false);
        }
        due.is("what is thrown", found(code, "throw new (\\w+)"), new TreeSet<>(THROWN));
        due.is("throws not by 'throw new'", found(code, "throw (?!new)(\\w+)"), new TreeSet<>());
        due.is("the library", found(code, "(Math\\.\\w+)"),
                new TreeSet<>(Set.of("Math.max", "Math.min")));
        List<Class<?>> classes = new ArrayList<>(List.of(LayerMoisture.class.getDeclaredClasses()));
        due.is("at most twelve classes", classes.size() < 12, true);
        for (Class<?> inside : classes) {
            due.is(inside + " is static", Modifier.isStatic(inside.getModifiers()), true);
            due.is(inside + " is not public", Modifier.isPublic(inside.getModifiers()), false);
        }
        classes.add(LayerMoisture.class);
        for (Class<?> each : classes) {
            staticFields(due, each);
            methodNames(due, each);
        }
        due.end();
    }

    private static TreeSet<String> found(String code, String pattern) {
        TreeSet<String> all = new TreeSet<>();
        Matcher m = Pattern.compile(pattern).matcher(code);
        while (m.find()) {
            all.add(m.group(1));
        }
        return all;
    }

    private static void staticFields(Due due, Class<?> each) {
        int own = 0;
        for (Field f : each.getDeclaredFields()) {
            if (Modifier.isStatic(f.getModifiers())) {
                due.is(f + " is final", Modifier.isFinal(f.getModifiers()), true);
                due.is(f + " has a constant's type", CONSTANTS.contains(f.getType()), true);
            } else {
                own++;
            }
        }
        due.is(each + " has at most twenty fields", own <= 20, true);
    }

    private static void methodNames(Due due, Class<?> each) {
        Set<String> face = new TreeSet<>();
        for (Method m : LayerMoisture.class.getDeclaredMethods()) {
            if (Modifier.isPublic(m.getModifiers())) {
                face.add(m.getName());
            }
        }
        for (Method m : each.getDeclaredMethods()) {
            due.is(m + " has at most seven parameters", m.getParameterCount() <= 7, true);
            if (each != LayerMoisture.class || Modifier.isPrivate(m.getModifiers())) {
                due.is(m + " bears a name of the face", face.contains(m.getName()), false);
            }
        }
    }
}
