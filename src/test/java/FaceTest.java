import java.lang.reflect.Constructor;
import java.lang.reflect.Field;
import java.lang.reflect.Method;
import java.lang.reflect.Modifier;
import java.util.Arrays;
import java.util.TreeSet;

/** The public face, and promise 1: a new object. */
public final class FaceTest {
    private static final String[] METHODS = {
        "int type(long) IllegalArgumentException UnsupportedOperationException",
        "int wipe()",
        "int assume(boolean) IllegalArgumentException IllegalStateException",
        "int at()",
        "int state()",
        "int step() IllegalStateException",
        "int run(int) IllegalArgumentException",
        "int print(boolean,int) IndexOutOfBoundsException",
        "char out(int) IndexOutOfBoundsException",
        "int clause(int,int) IndexOutOfBoundsException IllegalArgumentException",
        "boolean subsumes(int,int) IndexOutOfBoundsException",
        "int proof()",
        "int claim(int,int,int,int) IllegalArgumentException IndexOutOfBoundsException"
                + " IllegalStateException",
        "int figure(int) IllegalArgumentException",
    };

    private static final Check check = new Check();

    public static void main(String[] args) {
        face();
        constants();
        newObject();
        objectsAreApart();
        check.end("FaceTest");
    }

    private static void face() {
        Class<?> desk = RefutationDesk.class;
        check.same("modifiers", desk.getModifiers(), Modifier.PUBLIC | Modifier.FINAL);
        TreeSet<String> found = new TreeSet<>();
        for (Method m : desk.getDeclaredMethods()) {
            if (!Modifier.isPrivate(m.getModifiers()) && !m.isSynthetic()) {
                found.add(described(m));
            }
        }
        check.same("methods", found.toString(), new TreeSet<>(Arrays.asList(METHODS)).toString());
        Constructor<?>[] constructors = desk.getDeclaredConstructors();
        check.same("constructors", constructors.length, 1);
        check.same("its parameters", constructors[0].getParameterCount(), 0);
    }

    private static String described(Method m) {
        StringBuilder text = new StringBuilder(m.getReturnType() + " " + m.getName() + "(");
        for (Class<?> parameter : m.getParameterTypes()) {
            text.append(text.charAt(text.length() - 1) == '(' ? "" : ",").append(parameter);
        }
        text.append(")");
        for (Class<?> thrown : m.getExceptionTypes()) {
            text.append(" ").append(thrown.getSimpleName());
        }
        return text.toString();
    }

    private static void constants() {
        TreeSet<String> found = new TreeSet<>();
        for (Field f : RefutationDesk.class.getDeclaredFields()) {
            if (!Modifier.isPrivate(f.getModifiers()) && !f.isSynthetic()) {
                found.add(f.getName());
            }
        }
        check.same("fields", found.toString(),
                "[EXHAUSTED, FULL, NONE, OPEN, REFUTED, SATURATED]");
        check.same("NONE", RefutationDesk.NONE, -1);
        check.same("OPEN", RefutationDesk.OPEN, 0);
        check.same("REFUTED", RefutationDesk.REFUTED, 1);
        check.same("FULL", RefutationDesk.FULL, 2);
        check.same("SATURATED", RefutationDesk.SATURATED, 3);
        check.same("EXHAUSTED", RefutationDesk.EXHAUSTED, 4);
    }

    private static void newObject() {
        RefutationDesk desk = new RefutationDesk();
        check.same("at of a new desk", desk.at(), -1);
        check.same("type(0)", desk.type(0), 0);
        check.same("wipe", desk.wipe(), 0);
        for (int what = 0; what <= 8; what++) {
            check.same("figure " + what, desk.figure(what), 0);
        }
        check.refuses("clause 0", IndexOutOfBoundsException.class, () -> desk.clause(0, 0));
        check.refuses("print clause 0", IndexOutOfBoundsException.class,
                () -> desk.print(false, 0));
        check.refuses("print line 0", IndexOutOfBoundsException.class, () -> desk.print(true, 0));
        check.refuses("out 0", IndexOutOfBoundsException.class, () -> desk.out(0));
        check.same("state", desk.state(), RefutationDesk.SATURATED);
        check.same("proof", desk.proof(), RefutationDesk.NONE);
    }

    private static void objectsAreApart() {
        RefutationDesk first = new RefutationDesk();
        RefutationDesk second = new RefutationDesk();
        Check.assume(first, "?xP(x)");
        Check.type(first, "Q");
        check.same("the other's clauses", second.figure(0), 0);
        check.same("the other's functions", second.figure(7), 0);
        check.same("the other's text", second.wipe(), 0);
    }
}
