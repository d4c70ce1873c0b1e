import java.lang.reflect.Constructor;
import java.lang.reflect.Field;
import java.lang.reflect.Method;
import java.lang.reflect.Modifier;
import java.util.Arrays;
import java.util.NoSuchElementException;
import java.util.TreeSet;

/** The public face: just the constants, constructors and methods of the document. */
public final class FaceTest {
    private static final String[] METHODS = {
        "int feed(int, int, int, int, int)", "boolean end(int)", "int text()", "int fault()", "int now(int)",
        "int type(int, int)", "int ledger(int, int)", "int lorry(int, int) throws NoSuchElementException",
        "int trip(int, int)", "boolean fits(int, int)", "int plan(int)", "int served(int, int)", "int needs(int)",
        "int free(int, int)", "int shortest(int, int)", "int lawful(int, int)", "int ask(int, int, int)",
        "boolean drop(int)", "int assign()", "int home(int) throws NoSuchElementException", "int stop(int, int)",
        "int handBack(int, int)", "int pass(int)", "int undo()"};

    public static void main(String[] args) {
        Class<?> office = PermitOffice.class;
        Check.yes("public", Modifier.isPublic(office.getModifiers()));
        Check.yes("final", Modifier.isFinal(office.getModifiers()));
        TreeSet<String> found = new TreeSet<>();
        for (Method method : office.getDeclaredMethods()) {
            if (!Modifier.isPrivate(method.getModifiers())) {
                found.add(face(method));
            }
        }
        TreeSet<String> due = new TreeSet<>(Arrays.asList(METHODS));
        Check.yes("methods " + found, found.equals(due));
        constants(office);
        Constructor<?>[] constructors = office.getDeclaredConstructors();
        Check.same("one constructor", 1, constructors.length);
        Check.yes("it is public", Modifier.isPublic(constructors[0].getModifiers()));
        Check.same("without arguments", 0, constructors[0].getParameterCount());
        nested(office);
        Check.end("FaceTest");
    }

    private static String face(Method method) {
        StringBuilder face = new StringBuilder(method.getReturnType().getName()).append(' ').append(method.getName());
        face.append(Arrays.toString(method.getParameterTypes()).replace('[', '(').replace(']', ')'));
        for (Class<?> thrown : method.getExceptionTypes()) {
            face.append(" throws ").append(thrown == NoSuchElementException.class ? "NoSuchElementException" : thrown);
        }
        boolean plain = Modifier.isPublic(method.getModifiers()) && !Modifier.isStatic(method.getModifiers());
        return plain ? face.toString() : "not a public method: " + face;
    }

    private static void constants(Class<?> office) {
        for (Field field : office.getDeclaredFields()) {
            boolean hidden = Modifier.isPrivate(field.getModifiers());
            Check.yes("field " + field.getName(), hidden != field.getName().equals("NONE"));
            boolean constant = Modifier.isStatic(field.getModifiers());
            Check.yes("static is final " + field.getName(), !constant || Modifier.isFinal(field.getModifiers()));
        }
    }

    private static void nested(Class<?> office) {
        TreeSet<String> names = new TreeSet<>();
        for (String method : METHODS) {
            names.add(method.replaceAll(".* (\\w+)\\(.*", "$1"));
        }
        Check.yes("twelve classes at most", office.getDeclaredClasses().length < 12);
        for (Class<?> inner : office.getDeclaredClasses()) {
            Check.yes("static " + inner, Modifier.isStatic(inner.getModifiers()));
            Check.no("public " + inner, Modifier.isPublic(inner.getModifiers()));
            for (Method method : inner.getDeclaredMethods()) {
                Check.no("a name of the face: " + method, names.contains(method.getName()));
            }
        }
    }
}
