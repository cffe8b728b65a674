import java.lang.reflect.Constructor;
import java.lang.reflect.Field;
import java.lang.reflect.Method;
import java.lang.reflect.Modifier;
import java.util.Arrays;
import java.util.Set;
import java.util.TreeSet;

/** The class shows the document's face and nothing else (rule 1 of LANGUAGE.md). */
public final class FaceTest {
    private static final String INDEX = "java.lang.IndexOutOfBoundsException";
    private static final String ELEMENT = "java.util.NoSuchElementException";
    private static final String ARGUMENT = "java.lang.IllegalArgumentException";
    private static final String STATE = "java.lang.IllegalStateException";
    private static final String UNSUPPORTED = "java.lang.UnsupportedOperationException";

    public static void main(String[] args) throws Exception {
        Check.same("the class is public and final", true,
            Modifier.isPublic(ThreeCompactors.class.getModifiers())
                && Modifier.isFinal(ThreeCompactors.class.getModifiers()));
        methods();
        constants();
        constructors();
        Check.end("FaceTest");
    }

    private static void methods() {
        Set<String> due = new TreeSet<>(Arrays.asList(
            method("int allocate(int,int)", INDEX, ARGUMENT, STATE),
            method("int claim(int,int,int)", INDEX, ARGUMENT, UNSUPPORTED, STATE),
            method("int compact(int)", ARGUMENT, UNSUPPORTED),
            method("void copy(int,int)", INDEX),
            method("void clear(int)", INDEX),
            method("void put(int,int,int)", INDEX, ELEMENT),
            method("void refer(int,int,int,boolean)", INDEX, ELEMENT),
            method("boolean follow(int,int,int)", INDEX, ELEMENT, STATE),
            method("int kind(int,int)", INDEX, ELEMENT),
            method("int serial(int)", INDEX),
            method("int address(int)", INDEX),
            method("int word(int)", INDEX),
            method("int top()"),
            method("int objects()"),
            method("int alive()")));
        Set<String> shown = new TreeSet<>();
        Set<String> shownNames = new TreeSet<>();
        for (Method m : ThreeCompactors.class.getDeclaredMethods()) {
            if (!Modifier.isPrivate(m.getModifiers())) {
                shown.add(text(m));
                shownNames.add(m.getName());
            }
        }
        Check.same("the methods", due.toString(), shown.toString());
        for (Method m : ThreeCompactors.class.getDeclaredMethods()) {
            if (Modifier.isPrivate(m.getModifiers())) {
                Check.same(m.getName() + " is the name of a public method too", false, shownNames.contains(m.getName()));
            }
        }
    }

    private static String method(String head, String... thrown) {
        return "public " + head + " throws " + Arrays.toString(thrown);
    }

    private static String text(Method m) {
        StringBuilder text = new StringBuilder();
        text.append(Modifier.toString(m.getModifiers())).append(' ').append(m.getReturnType().getName());
        text.append(' ').append(m.getName()).append('(');
        for (int i = 0; i < m.getParameterCount(); i++) {
            text.append(i == 0 ? "" : ",").append(m.getParameterTypes()[i].getName());
        }
        String[] thrown = new String[m.getExceptionTypes().length];
        for (int i = 0; i < thrown.length; i++) {
            thrown[i] = m.getExceptionTypes()[i].getName();
        }
        return text.append(") throws ").append(Arrays.toString(thrown)).toString();
    }

    private static void constants() throws Exception {
        Set<String> shown = new TreeSet<>();
        for (Field f : ThreeCompactors.class.getDeclaredFields()) {
            if (!Modifier.isPrivate(f.getModifiers())) {
                shown.add(f.toString());
            }
        }
        Check.same("the constants", "[public static final int ThreeCompactors.NONE]", shown.toString());
        Check.same("NONE", -1, ThreeCompactors.class.getField("NONE").getInt(null));
    }

    private static void constructors() {
        Constructor<?>[] all = ThreeCompactors.class.getDeclaredConstructors();
        Check.same("the constructors", "[public ThreeCompactors()]", Arrays.toString(all));
    }
}
