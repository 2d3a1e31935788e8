import java.lang.reflect.Constructor;
import java.lang.reflect.Field;
import java.lang.reflect.Method;
import java.lang.reflect.Modifier;
import java.util.ArrayList;
import java.util.Arrays;
import java.util.List;
import java.util.Set;
import java.util.TreeSet;

/** The public face, member by member, that nothing else can be seen from outside, and no static state. */
public final class FaceTest {
    private static final String I = "IndexOutOfBoundsException";
    private static final String A = "IllegalArgumentException";
    private static final String S = "IllegalStateException";

    private static final String[] FACE = {
        "int device() " + S,
        "int place(int,int,int,int) " + I + " " + A + " " + S,
        "int has(int,int) " + I + " " + A,
        "int at(int,int,int) " + I + " " + A,
        "int mark(int,int,int) " + I + " " + A + " " + S,
        "int time(int,int) " + I + " " + A,
        "int speed(int) " + A,
        "int limit(int) " + A,
        "int jump(int,int) " + I,
        "int gap(int,int) " + I,
        "boolean could(int,int,int,int) " + I + " " + A,
        "int fence() " + S,
        "int corner(int,int,int) " + I + " " + A + " " + S,
        "boolean in(int,int,int) " + I,
        "int port(int,int) " + I,
        "int pack(int) " + I,
        "int byteAt(int) " + I,
        "int feed(int) " + A + " " + S,
        "int read(int) " + I,
        "int repeat(int,int) " + I + " " + A,
        "int sight(int,int,int) " + A + " " + S,
        "long weight(int,int) " + I,
        "long matched()",
        "int match(int) " + I,
        "int told(int) " + A,
    };

    public static void main(String[] args) {
        methods();
        fieldsAndConstructors();
        classesInside();
        Check.end();
    }

    private static void methods() {
        Set<String> due = new TreeSet<>(Arrays.asList(FACE));
        Set<String> publicNames = new TreeSet<>();
        Set<String> seen = new TreeSet<>();
        for (Method m : TrackRows.class.getDeclaredMethods()) {
            if (Modifier.isPublic(m.getModifiers())) {
                seen.add(told(m));
                publicNames.add(m.getName());
            }
        }
        for (String s : due) {
            Check.is("there is " + s, seen.contains(s), true);
        }
        for (Method m : TrackRows.class.getDeclaredMethods()) {
            if (Modifier.isPublic(m.getModifiers())) {
                Check.is("the document has " + told(m), due.contains(told(m)), true);
            } else {
                Check.is(m + " is private", Modifier.isPrivate(m.getModifiers()), true);
                Check.is(m + " has a name of its own", publicNames.contains(m.getName()), false);
            }
        }
    }

    private static String told(Method m) {
        List<String> kinds = new ArrayList<>();
        for (Class<?> c : m.getParameterTypes()) {
            kinds.add(c.getSimpleName());
        }
        StringBuilder text = new StringBuilder();
        text.append(Modifier.isStatic(m.getModifiers()) ? "static " : "");
        text.append(m.getReturnType().getSimpleName()).append(' ').append(m.getName());
        text.append('(').append(String.join(",", kinds)).append(')');
        for (Class<?> c : m.getExceptionTypes()) {
            text.append(' ').append(c.getSimpleName());
        }
        return text.toString();
    }

    private static void fieldsAndConstructors() {
        Check.is("NONE", TrackRows.NONE, -1);
        Check.is("TWICE", TrackRows.TWICE, -2);
        Set<String> seen = new TreeSet<>();
        for (Field f : TrackRows.class.getDeclaredFields()) {
            if (!Modifier.isPrivate(f.getModifiers())) {
                seen.add(Modifier.toString(f.getModifiers()) + " " + f.getType() + " " + f.getName());
            }
        }
        Check.is("fields that are not private", seen.size(), 2);
        Check.is("NONE is a constant", seen.contains("public static final int NONE"), true);
        Check.is("TWICE is a constant", seen.contains("public static final int TWICE"), true);
        Constructor<?>[] made = TrackRows.class.getDeclaredConstructors();
        Check.is("constructors", made.length, 1);
        Check.is("the constructor is public", Modifier.isPublic(made[0].getModifiers()), true);
        Check.is("the constructor's parameters", made[0].getParameterCount(), 0);
        Check.is("the class is public and final",
                TrackRows.class.getModifiers(), Modifier.PUBLIC | Modifier.FINAL);
        Check.is("the class has no package", TrackRows.class.getPackageName().isEmpty(), true);
    }

    private static void classesInside() {
        Class<?>[] inside = TrackRows.class.getDeclaredClasses();
        Check.is("some twelve classes at most", inside.length <= 11, true);
        for (Class<?> c : inside) {
            int bits = c.getModifiers();
            Check.is(c + " is static", Modifier.isStatic(bits), true);
            Check.is(c + " is hidden", Modifier.isPublic(bits) || Modifier.isProtected(bits), false);
            fewFieldsAndNoStaticState(c);
        }
        fewFieldsAndNoStaticState(TrackRows.class);
    }

    private static void fewFieldsAndNoStaticState(Class<?> c) {
        int ofAnObject = 0;
        for (Field f : c.getDeclaredFields()) {
            if (Modifier.isStatic(f.getModifiers())) {
                Check.is(f + " never changes", Modifier.isFinal(f.getModifiers()), true);
                Check.is(f + " is a number", f.getType() == int.class || f.getType() == long.class, true);
            } else {
                ofAnObject++;
            }
        }
        Check.is(c + " has few fields", ofAnObject <= 20, true);
    }
}
