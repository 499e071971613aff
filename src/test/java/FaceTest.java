import java.io.IOException;
import java.lang.reflect.Constructor;
import java.lang.reflect.Field;
import java.lang.reflect.Method;
import java.lang.reflect.Modifier;
import java.nio.charset.StandardCharsets;
import java.nio.file.Files;
import java.nio.file.Path;
import java.util.Arrays;
import java.util.TreeSet;

/** The public face, to the letter, and rules 1 and 5 of LANGUAGE.md; run in the project's root. */
public final class FaceTest {
    private static final String INDEX = "IndexOutOfBoundsException";
    private static final String ARGUMENT = "IllegalArgumentException";
    private static final String STATE = "IllegalStateException";
    private static final Path SOURCE = Path.of("src/main/java/LanternDesk.java");
    /** What the interface says ahead of its calls, and the calls. */
    private static final String[] INTERFACE = {
        "---- streets", "pay", "setStreet", "vote",
        "---- walks", "place", "ask", "pass", "night", "complain",
        "---- what there is; nothing from here on changes anything", "day", "minute", "purse", "walks", "state",
        "escortOf", "dark", "streetOf", "rank", "way",
        "---- pictures", "pictures", "shows", "showsByPapers", "taken"
    };

    public static void main(String[] args) throws IOException {
        Due.is("the class's modifiers", LanternDesk.class.getModifiers(), Modifier.PUBLIC | Modifier.FINAL);
        Due.is("the class's package", LanternDesk.class.getPackageName(), "");
        Due.is("the methods", methods(), dueMethods());
        constructors();
        fields();
        nestedClasses();
        sections(Files.readString(SOURCE, StandardCharsets.UTF_8));
        Due.end();
    }

    private static TreeSet<String> dueMethods() {
        return new TreeSet<>(Arrays.asList(
                "int pay(int,int) " + Arrays.asList(INDEX, ARGUMENT, STATE),
                "int setStreet(int,int,boolean) " + Arrays.asList(INDEX, ARGUMENT),
                "int vote(int,int,int) " + Arrays.asList(INDEX, ARGUMENT),
                "int place(int,int) " + Arrays.asList(INDEX, STATE),
                "int ask(int,int) " + Arrays.asList(INDEX, ARGUMENT, STATE),
                "int pass(int) " + Arrays.asList(ARGUMENT, STATE),
                "int night() " + Arrays.asList(STATE),
                "int complain(int,boolean) " + Arrays.asList(INDEX, STATE),
                "int day() []", "int minute() []", "int walks() []", "int pictures() []", "int taken() []",
                "int purse(int) " + Arrays.asList(INDEX),
                "int state(int) " + Arrays.asList(INDEX),
                "int escortOf(int) " + Arrays.asList(INDEX),
                "int dark(int) " + Arrays.asList(INDEX),
                "int streetOf(int) " + Arrays.asList(INDEX),
                "int rank(int) " + Arrays.asList(INDEX),
                "int way(int,int) " + Arrays.asList(INDEX),
                "boolean shows(int,int,int) " + Arrays.asList(INDEX),
                "boolean showsByPapers(int,int,int) " + Arrays.asList(INDEX)));
    }

    private static TreeSet<String> methods() {
        TreeSet<String> faces = new TreeSet<>();
        for (Method method : LanternDesk.class.getDeclaredMethods()) {
            if (!Modifier.isPrivate(method.getModifiers()) && !method.isSynthetic()) {
                Due.is(method + " is public", Modifier.isPublic(method.getModifiers()), true);
                faces.add(face(method));
            }
        }
        return faces;
    }

    private static String face(Method method) {
        return method.getReturnType().getSimpleName() + " " + method.getName()
                + "(" + names(method.getParameterTypes(), ",") + ") [" + names(method.getExceptionTypes(), ", ") + "]";
    }

    private static String names(Class<?>[] types, String between) {
        StringBuilder text = new StringBuilder();
        for (Class<?> type : types) {
            text.append(text.length() == 0 ? "" : between).append(type.getSimpleName());
        }
        return text.toString();
    }

    private static void constructors() {
        Constructor<?>[] made = LanternDesk.class.getDeclaredConstructors();
        Due.is("how many constructors there are", made.length, 1);
        Due.is("the constructor is public", Modifier.isPublic(made[0].getModifiers()), true);
        Due.is("the constructor's parameters", made[0].getParameterCount(), 0);
        Due.is("the constructor's exceptions", made[0].getExceptionTypes().length, 0);
    }

    private static void fields() {
        for (Field field : LanternDesk.class.getDeclaredFields()) {
            Due.is(field + " is private", Modifier.isPrivate(field.getModifiers()), true);
            if (Modifier.isStatic(field.getModifiers())) {
                Due.is(field + " is final", Modifier.isFinal(field.getModifiers()), true);
            }
        }
    }

    private static void nestedClasses() {
        TreeSet<String> faces = new TreeSet<>();
        for (Method method : LanternDesk.class.getMethods()) {
            faces.add(method.getName());
        }
        for (Method method : LanternDesk.class.getDeclaredMethods()) {
            boolean isHidden = !Modifier.isPublic(method.getModifiers());
            Due.is(method + " bears a public method's name", isHidden && faces.contains(method.getName()), false);
        }
        Class<?>[] nested = LanternDesk.class.getDeclaredClasses();
        Due.is("there are some twelve classes at most", nested.length < 12, true);
        for (Class<?> inside : nested) {
            Due.is(inside + " is static", Modifier.isStatic(inside.getModifiers()), true);
            Due.is(inside + " is hidden", (inside.getModifiers() & (Modifier.PUBLIC | Modifier.PROTECTED)) == 0, true);
            for (Method method : inside.getDeclaredMethods()) {
                Due.is(method + " bears a public method's name", faces.contains(method.getName()), false);
            }
        }
    }

    private static void sections(String source) {
        int last = -1;
        for (String part : INTERFACE) {
            String text = part.startsWith("----") ? "    // " + part + "\n" : " " + part + "(";
            int place = part.startsWith("----") ? source.indexOf(text) : publicCall(source, text);
            Due.is("\"" + part + "\" stands behind what is ahead of it", place > last, true);
            last = place;
        }
    }

    private static int publicCall(String source, String text) {
        int asInt = source.indexOf("    public int" + text);
        return asInt >= 0 ? asInt : source.indexOf("    public boolean" + text);
    }
}
