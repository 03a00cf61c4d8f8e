import java.lang.reflect.Constructor;
import java.lang.reflect.Member;
import java.lang.reflect.Method;
import java.lang.reflect.Modifier;
import java.util.ArrayList;
import java.util.Arrays;
import java.util.List;
import java.util.TreeSet;
import java.util.stream.Collectors;

/** The public face: just what the document lists, with the exceptions that it names. */
public final class FaceTest {
    private static final String[] METHODS = {
        "void grid(int, int) throws IllegalArgumentException",
        "boolean wall(int, int, boolean) throws ArrayIndexOutOfBoundsException, IllegalStateException",
        "boolean start(int, int, int) throws IllegalArgumentException, IllegalStateException",
        "boolean end(int, int, int) throws IllegalArgumentException, IllegalStateException",
        "boolean swap(boolean)",
        "void seed(int) throws IllegalArgumentException",
        "int solve(int) throws IllegalArgumentException, IllegalStateException",
        "boolean exact()",
        "int at(int, int, int) throws IllegalArgumentException, IllegalStateException",
        "int last() throws IllegalStateException",
        "int alone(int) throws IllegalArgumentException, IllegalStateException",
        "int bound() throws IllegalStateException",
        "int share() throws IllegalStateException, ArithmeticException",
        "int count(int)",
    };

    public static void main(String[] args) {
        Class<?> face = JointPlans.class;
        Check.due("modifiers", Modifier.toString(face.getModifiers()), "public final");
        Check.due("package", face.getPackageName(), "");
        TreeSet<String> methods = new TreeSet<>();
        TreeSet<String> hidden = new TreeSet<>();
        for (Method m : face.getDeclaredMethods()) {
            if (Modifier.isPrivate(m.getModifiers())) {
                hidden.add(m.getName());
            } else {
                Check.due("modifiers of " + m.getName(), Modifier.toString(m.getModifiers()), "public");
                methods.add(text(m));
            }
        }
        Check.due("methods", methods, new TreeSet<>(Arrays.asList(METHODS)));
        Check.due("the document's face", documentFace(), faceOf(METHODS));
        for (String method : METHODS) {
            String name = method.replaceAll("^\\w+ (\\w+)\\(.*", "$1");
            Check.due("a private method " + name, hidden.contains(name), false);
        }
        for (Member field : face.getDeclaredFields()) {
            Check.due("field " + field.getName() + " is private", Modifier.isPrivate(field.getModifiers()), true);
        }
        Constructor<?>[] constructors = face.getDeclaredConstructors();
        Check.due("constructors", constructors.length, 1);
        Check.due("constructor", constructors[0].toString(), "public JointPlans(int)");
        for (Class<?> inner : face.getDeclaredClasses()) {
            boolean fits = Modifier.isStatic(inner.getModifiers()) && !Modifier.isPublic(inner.getModifiers());
            Check.due("class " + inner.getName() + " is static and hidden", fits, true);
        }
        Check.finish();
    }

    /** What the document declares, without the names of parameters. */
    private static List<String> documentFace() {
        String text = Sentences.text("The public face");
        List<String> all = new ArrayList<>();
        for (String part : text.substring(text.indexOf('{') + 1, text.lastIndexOf('}')).split(";")) {
            if (!part.isBlank()) {
                all.add(part.trim().replaceAll("(int|boolean) \\w+(?=[,)])", "$1"));
            }
        }
        return all;
    }

    private static List<String> faceOf(String[] methods) {
        List<String> all = new ArrayList<>(List.of("public JointPlans(int)"));
        for (String method : methods) {
            all.add("public " + method);
        }
        return all;
    }

    private static String text(Method m) {
        String thrown = names(m.getExceptionTypes());
        return m.getReturnType() + " " + m.getName() + "(" + names(m.getParameterTypes()) + ")"
            + (thrown.isEmpty() ? "" : " throws " + thrown);
    }

    private static String names(Class<?>[] types) {
        return List.of(types).stream().map(Class::getSimpleName).collect(Collectors.joining(", "));
    }
}
