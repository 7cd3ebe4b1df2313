import java.lang.reflect.Constructor;
import java.lang.reflect.Field;
import java.lang.reflect.Method;
import java.lang.reflect.Modifier;
import java.util.Arrays;
import java.util.TreeSet;

/** The public face is the document's, with nothing else that can be seen from outside. */
public final class FaceTest {
    private static final String ARGUMENT = " IllegalArgumentException";
    private static final String INDEX = " IndexOutOfBoundsException";
    private static final String STATE = " IllegalStateException";
    private static final String[] FACE = {
        "void clear(int,int)" + ARGUMENT,
        "int set(int,int,int)" + INDEX + ARGUMENT,
        "void row(int,int)" + INDEX,
        "int get(int,int)",
        "int width()",
        "int height()",
        "void halve()",
        "int write(int)" + ARGUMENT,
        "int read(int)" + ARGUMENT + STATE,
        "int told(int)" + ARGUMENT + STATE,
        "int size()",
        "int byteAt(int)" + INDEX,
        "void poke(int,int)" + INDEX + ARGUMENT,
        "int type(long,int)" + ARGUMENT + STATE,
        "void cut(int)" + ARGUMENT,
    };

    public static void main(String[] args) {
        TreeSet<String> found = new TreeSet<>();
        TreeSet<String> publicNames = new TreeSet<>();
        for (Method m : LayeredBits.class.getDeclaredMethods()) {
            if (!Modifier.isPrivate(m.getModifiers())) {
                found.add(shown(m));
                publicNames.add(m.getName());
                Check.due(m.getName() + " is public and nothing else", m.getModifiers(), Modifier.PUBLIC);
            }
        }
        Check.due("methods", found.toString(), new TreeSet<>(Arrays.asList(FACE)).toString());
        for (Method m : LayeredBits.class.getDeclaredMethods()) {
            boolean hidden = Modifier.isPrivate(m.getModifiers());
            Check.due("private " + m.getName() + " has a public name", hidden && publicNames.contains(m.getName()) ? 1 : 0, 0);
        }
        fieldsAndConstructors();
        Check.finish();
    }

    private static void fieldsAndConstructors() {
        Check.due("class is public and final", LayeredBits.class.getModifiers(), Modifier.PUBLIC | Modifier.FINAL);
        StringBuilder seen = new StringBuilder();
        for (Field f : LayeredBits.class.getDeclaredFields()) {
            if (!Modifier.isPrivate(f.getModifiers())) {
                seen.append(Modifier.toString(f.getModifiers())).append(' ').append(f.getType()).append(' ').append(f.getName());
            }
        }
        Check.due("fields", seen.toString(), "public static final int NONE");
        Check.due("NONE", LayeredBits.NONE, -1);
        Constructor<?>[] made = LayeredBits.class.getDeclaredConstructors();
        Check.due("constructors", made.length, 1);
        Check.due("constructor is public", made[0].getModifiers(), Modifier.PUBLIC);
        Check.due("constructor has no parameters", made[0].getParameterCount(), 0);
        for (Class<?> inside : LayeredBits.class.getDeclaredClasses()) {
            boolean shut = (inside.getModifiers() & (Modifier.PUBLIC | Modifier.PROTECTED)) == 0;
            Check.due(inside.getName() + " is static and hidden", shut && Modifier.isStatic(inside.getModifiers()) ? 1 : 0, 1);
        }
    }

    private static String shown(Method m) {
        StringBuilder text = new StringBuilder(m.getReturnType() + " " + m.getName() + "(");
        for (Class<?> p : m.getParameterTypes()) {
            text.append(text.charAt(text.length() - 1) == '(' ? "" : ",").append(p);
        }
        text.append(')');
        for (Class<?> e : m.getExceptionTypes()) {
            text.append(' ').append(e.getSimpleName());
        }
        return text.toString();
    }
}
