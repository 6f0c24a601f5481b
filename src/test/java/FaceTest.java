import java.lang.reflect.Constructor;
import java.lang.reflect.Field;
import java.lang.reflect.Method;
import java.lang.reflect.Modifier;
import java.util.ArrayList;
import java.util.Arrays;
import java.util.List;
import java.util.TreeSet;

/** The public face is the document's, to the letter, and nothing else can be seen from outside. */
public final class FaceTest {
    private static final String INDEX = "ArrayIndexOutOfBoundsException";
    private static final String ARGUMENT = "IllegalArgumentException";
    private static final String STATE = "IllegalStateException";

    public static void main(String[] args) {
        Due due = new Due("FaceTest");
        due.is("the class is public and final", LayerMoisture.class.getModifiers(),
                Modifier.PUBLIC | Modifier.FINAL);
        due.is("the methods", seenMethods(), new TreeSet<>(documentMethods()));
        due.is("the fields", seenFields(), List.of("public static final int NONE"));
        due.is("the constructors", seenConstructors(), List.of("public LayerMoisture(int,int)"));
        due.is("NONE", LayerMoisture.NONE, -1);
        due.end();
    }

    private static List<String> documentMethods() {
        return List.of(
                line("void board(int,double,double,int)", INDEX, ARGUMENT),
                line("void rate(int,double,double)", INDEX, ARGUMENT),
                line("void air(double,double,double)", ARGUMENT),
                line("void vent(double)", ARGUMENT),
                line("void soak(int,int,double)", INDEX, ARGUMENT, STATE),
                line("boolean unit(int)"),
                line("int schedule()"),
                line("int run(int)", ARGUMENT),
                line("void limit(int,double)", INDEX, ARGUMENT, STATE),
                line("int check(int)", INDEX, STATE),
                line("double wet(int,int)", INDEX, STATE),
                line("double mean(int)", INDEX, STATE),
                line("double stress(int,int)", INDEX, STATE),
                line("double balance()"),
                line("double told(int)", INDEX),
                line("long grams()"),
                line("int count(int)", INDEX));
    }

    private static String line(String head, String... thrown) {
        return "public " + head + " throws " + Arrays.toString(thrown);
    }

    private static TreeSet<String> seenMethods() {
        TreeSet<String> seen = new TreeSet<>();
        for (Method m : LayerMoisture.class.getDeclaredMethods()) {
            if (!Modifier.isPrivate(m.getModifiers())) {
                seen.add(Modifier.toString(m.getModifiers()) + " " + m.getReturnType().getSimpleName()
                        + " " + m.getName() + parameters(m.getParameterTypes()) + " throws "
                        + Arrays.stream(m.getExceptionTypes()).map(Class::getSimpleName).toList());
            }
        }
        return seen;
    }

    private static String parameters(Class<?>[] types) {
        List<String> names = new ArrayList<>();
        for (Class<?> type : types) {
            names.add(type.getSimpleName());
        }
        return "(" + String.join(",", names) + ")";
    }

    private static List<String> seenFields() {
        List<String> seen = new ArrayList<>();
        for (Field f : LayerMoisture.class.getDeclaredFields()) {
            if (!Modifier.isPrivate(f.getModifiers())) {
                seen.add(Modifier.toString(f.getModifiers()) + " " + f.getType() + " " + f.getName());
            }
        }
        return seen;
    }

    private static List<String> seenConstructors() {
        List<String> seen = new ArrayList<>();
        for (Constructor<?> c : LayerMoisture.class.getDeclaredConstructors()) {
            seen.add(Modifier.toString(c.getModifiers()) + " LayerMoisture"
                    + parameters(c.getParameterTypes()));
        }
        return seen;
    }
}
