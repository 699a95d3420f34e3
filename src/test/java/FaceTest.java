import java.lang.reflect.Constructor;
import java.lang.reflect.Field;
import java.lang.reflect.Method;
import java.lang.reflect.Modifier;
import java.util.Arrays;
import java.util.Set;
import java.util.TreeSet;

/** The public face, as the document has it, and nothing beside it. */
public final class FaceTest {
    private static final String[] METHODS = {
        "int balance(int) IndexOutOfBoundsException",
        "int balanceAnew(int) IndexOutOfBoundsException",
        "int dispute(int) IndexOutOfBoundsException IllegalStateException",
        "int fee(int) IllegalArgumentException",
        "int frozen(int,int) IndexOutOfBoundsException",
        "int goods(int) IndexOutOfBoundsException",
        "int guarantee(int,int,int) IndexOutOfBoundsException IllegalArgumentException IllegalStateException",
        "int guaranteed(int,int) IndexOutOfBoundsException",
        "boolean isIdle(int) IndexOutOfBoundsException",
        "int join() IllegalStateException",
        "int leave(int) IndexOutOfBoundsException IllegalStateException",
        "int limit(int) IndexOutOfBoundsException",
        "int night(int) IllegalArgumentException",
        "int ofTrade(int,int) IndexOutOfBoundsException IllegalArgumentException",
        "int owes(int,int) IndexOutOfBoundsException",
        "int revoke(int,int,int) IndexOutOfBoundsException IllegalArgumentException IllegalStateException",
        "int ring(int,int) IndexOutOfBoundsException IllegalArgumentException",
        "int rings()",
        "int settle(int,boolean) IndexOutOfBoundsException IllegalStateException",
        "int trade(int,int,int) IndexOutOfBoundsException IllegalArgumentException IllegalStateException",
    };

    private static boolean isHidden(int modifiers) {
        return Modifier.isPrivate(modifiers);
    }

    private static String told(Method m) {
        StringBuilder s = new StringBuilder(m.getReturnType().getSimpleName()).append(' ').append(m.getName()).append('(');
        for (Class<?> p : m.getParameterTypes()) {
            s.append(s.charAt(s.length() - 1) == '(' ? "" : ",").append(p.getSimpleName());
        }
        s.append(')');
        for (Class<?> e : m.getExceptionTypes()) {
            s.append(' ').append(e.getSimpleName());
        }
        return s.toString();
    }

    public static void main(String[] args) {
        Class<?> c = Mutualledger.class;
        Check.due("public", Modifier.isPublic(c.getModifiers()), true);
        Check.due("final", Modifier.isFinal(c.getModifiers()), true);
        Check.due("NONE", Mutualledger.NONE, -1);
        Check.due("STANDS", Mutualledger.STANDS, 0);
        Check.due("DISPUTED", Mutualledger.DISPUTED, 1);
        Check.due("VOID", Mutualledger.VOID, 2);

        Set<String> methods = new TreeSet<>();
        Set<String> open = new TreeSet<>();
        Set<String> hidden = new TreeSet<>();
        for (Method m : c.getDeclaredMethods()) {
            if (isHidden(m.getModifiers())) {
                hidden.add(m.getName());
            } else if (!m.isSynthetic()) {
                methods.add(told(m));
                open.add(m.getName());
                Check.due(m.getName() + " is public", Modifier.isPublic(m.getModifiers()), true);
            }
        }
        Check.same("the methods", methods.toString(), new TreeSet<>(Arrays.asList(METHODS)).toString());
        hidden.retainAll(open);
        Check.same("private methods with a public one's name", hidden.toString(), "[]");

        Set<String> fields = new TreeSet<>();
        for (Field f : c.getDeclaredFields()) {
            if (!isHidden(f.getModifiers())) {
                fields.add(Modifier.toString(f.getModifiers()) + " " + f.getType() + " " + f.getName());
            }
            if (Modifier.isStatic(f.getModifiers())) {
                Check.due(f.getName() + " is final", Modifier.isFinal(f.getModifiers()), true);
            }
        }
        Check.same("the constants", fields.toString(), "[public static final int DISPUTED, "
            + "public static final int NONE, public static final int STANDS, public static final int VOID]");

        Constructor<?>[] constructors = c.getDeclaredConstructors();
        Check.due("constructors", constructors.length, 1);
        Check.due("its parameters", constructors[0].getParameterCount(), 0);
        Check.due("it is public", Modifier.isPublic(constructors[0].getModifiers()), true);
        for (Class<?> inside : c.getDeclaredClasses()) {
            Check.due(inside.getName() + " is private", isHidden(inside.getModifiers()), true);
            Check.due(inside.getName() + " is static", Modifier.isStatic(inside.getModifiers()), true);
        }
        Check.end("FaceTest");
    }
}
