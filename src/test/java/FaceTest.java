import java.lang.reflect.Constructor;
import java.lang.reflect.Field;
import java.lang.reflect.Method;
import java.lang.reflect.Modifier;
import java.util.Set;
import java.util.TreeSet;

/** The class has the document's face, and nothing else that can be seen from outside. */
public final class FaceTest {
    private static final String INDEX = " IndexOutOfBoundsException";
    private static final String ARGUMENT = " IllegalArgumentException";
    private static final String STATE = " IllegalStateException";

    public static void main(String[] args) {
        Set<String> want = new TreeSet<>();
        want.add("int make(int)" + ARGUMENT + STATE);
        want.add("int carve(int int int int)" + INDEX + ARGUMENT + STATE);
        want.add("int scrape(int int int)" + INDEX + STATE);
        want.add("int roll(int int)" + INDEX + ARGUMENT + STATE);
        want.add("int bend(int int)" + INDEX + ARGUMENT + STATE);
        want.add("int glue(int int int int)" + INDEX + ARGUMENT + STATE);
        want.add("int stick(int int)" + INDEX);
        want.add("int rune(int int int)" + INDEX);
        want.add("int strength(int int)" + INDEX);
        want.add("int count(int)" + INDEX);
        want.add("boolean fits(int int)" + INDEX);
        want.add("int size(int int)" + INDEX + ARGUMENT);
        want.add("int reads(int int int)" + INDEX + ARGUMENT);
        want.add("int has(int int int)" + INDEX + ARGUMENT);
        want.add("int rhyme(int int int)" + INDEX + ARGUMENT);
        want.add("int best(int int int)" + INDEX + ARGUMENT);
        want.add("int pieces(int int)" + INDEX + ARGUMENT);
        want.add("int row(int int)" + INDEX + ARGUMENT + STATE);
        want.add("double mean()");
        want.add("long digest()");
        Set<String> got = new TreeSet<>();
        boolean right = Modifier.isPublic(RuneSticks.class.getModifiers())
            && Modifier.isFinal(RuneSticks.class.getModifiers());
        Set<String> publicNames = new TreeSet<>();
        for (Method method : RuneSticks.class.getDeclaredMethods()) {
            if (!Modifier.isPrivate(method.getModifiers())) {
                got.add(told(method));
                publicNames.add(method.getName());
            }
        }
        for (Method method : RuneSticks.class.getDeclaredMethods()) {
            right &= !Modifier.isPrivate(method.getModifiers()) || !publicNames.contains(method.getName());
        }
        for (Field field : RuneSticks.class.getDeclaredFields()) {
            right &= Modifier.isPrivate(field.getModifiers());
        }
        Constructor<?>[] constructors = RuneSticks.class.getDeclaredConstructors();
        right &= constructors.length == 1 && Modifier.isPublic(constructors[0].getModifiers())
            && constructors[0].getParameterCount() == 0;
        if (!right || !want.equals(got)) {
            System.out.println("the face is " + got + ", due is " + want);
            System.exit(1);
        }
        System.out.println("the face is as due");
    }

    private static String told(Method method) {
        StringBuilder told = new StringBuilder(method.getReturnType().getName() + " " + method.getName() + "(");
        for (Class<?> parameter : method.getParameterTypes()) {
            told.append(told.charAt(told.length() - 1) == '(' ? "" : " ").append(parameter.getName());
        }
        told.append(")");
        for (Class<?> thrown : method.getExceptionTypes()) {
            told.append(" ").append(thrown.getSimpleName());
        }
        return told.toString();
    }
}
