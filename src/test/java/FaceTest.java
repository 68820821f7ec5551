import java.lang.reflect.Constructor;
import java.lang.reflect.Field;
import java.lang.reflect.Method;
import java.lang.reflect.Modifier;
import java.util.TreeSet;

/** The public face: just what the document tells, and nothing else that isn't private. */
public final class FaceTest {
    private static final String[] FACE = {
        "advance(int)int IllegalArgumentException IllegalStateException",
        "agree(int)int IndexOutOfBoundsException IllegalStateException",
        "claim(int,int)int IndexOutOfBoundsException IllegalArgumentException IllegalStateException",
        "claims()int",
        "close(int,int,int)int IllegalArgumentException IllegalStateException",
        "day()int",
        "decide(int,int)int IndexOutOfBoundsException IllegalStateException IllegalArgumentException",
        "due()int",
        "dueOf(int)int IndexOutOfBoundsException",
        "finalPrice()int",
        "held()int",
        "isMet(int)boolean IndexOutOfBoundsException",
        "offer(int,int)int IndexOutOfBoundsException IllegalStateException IllegalArgumentException",
        "outstanding()int",
        "owed()int",
        "paid()int",
        "report(int)int IllegalArgumentException IllegalStateException",
        "returned()int",
        "setCarry(boolean)void IllegalStateException",
        "setKind(int,int,int,boolean,int,int)void"
                + " IndexOutOfBoundsException IllegalArgumentException IllegalStateException",
        "setOff()int",
        "setPart(int,int,int)void IndexOutOfBoundsException IllegalArgumentException IllegalStateException",
        "setPrice(int,int,int)void IllegalArgumentException IllegalStateException",
        "setYear(int,int,int)void IndexOutOfBoundsException IllegalArgumentException IllegalStateException",
        "settledAt(int)int IndexOutOfBoundsException",
        "speedUp()int IllegalStateException",
    };

    public static void main(String[] args) throws NoSuchFieldException {
        Class<?> face = PegBox.class;
        Check.due("public and final", face.getModifiers(), Modifier.PUBLIC | Modifier.FINAL);
        Check.same("extends", face.getSuperclass().getName(), "java.lang.Object");
        Check.due("no interfaces", face.getInterfaces().length, 0);
        Check.same("methods", publicMethods(face).toString(), new TreeSet<>(java.util.List.of(FACE)).toString());
        Check.same("constructors", constructors(face), "public PegBox()");
        Check.same("fields", openFields(face), "[NONE]");
        Field none = face.getDeclaredField("NONE");
        Check.due("NONE", none.getModifiers(), Modifier.PUBLIC | Modifier.STATIC | Modifier.FINAL);
        Check.same("NONE", none.getType().getName(), "int");
        namesApart(face);
        Check.end("FaceTest");
    }

    private static TreeSet<String> publicMethods(Class<?> face) {
        TreeSet<String> found = new TreeSet<>();
        for (Method m : face.getDeclaredMethods()) {
            if (Modifier.isPrivate(m.getModifiers()) || m.isSynthetic()) {
                continue;
            }
            Check.due(m.getName() + " is public alone", m.getModifiers(), Modifier.PUBLIC);
            StringBuilder text = new StringBuilder(m.getName()).append('(');
            for (Class<?> type : m.getParameterTypes()) {
                text.append(text.charAt(text.length() - 1) == '(' ? "" : ",").append(type.getName());
            }
            text.append(')').append(m.getReturnType().getName());
            for (Class<?> type : m.getExceptionTypes()) {
                text.append(' ').append(type.getSimpleName());
            }
            found.add(text.toString());
        }
        return found;
    }

    private static String constructors(Class<?> face) {
        StringBuilder text = new StringBuilder();
        for (Constructor<?> c : face.getDeclaredConstructors()) {
            text.append(c);
        }
        return text.toString();
    }

    private static String openFields(Class<?> face) {
        TreeSet<String> found = new TreeSet<>();
        for (Field f : face.getDeclaredFields()) {
            if (!Modifier.isPrivate(f.getModifiers())) {
                found.add(f.getName());
            }
        }
        return found.toString();
    }

    /** No private method, of the class or of one inside it, bears the name of a public one. */
    private static void namesApart(Class<?> face) {
        TreeSet<String> names = new TreeSet<>();
        for (Method m : face.getDeclaredMethods()) {
            if (Modifier.isPublic(m.getModifiers())) {
                names.add(m.getName());
            }
        }
        for (Method m : face.getDeclaredMethods()) {
            if (Modifier.isPrivate(m.getModifiers())) {
                Check.due("the name of the private " + m.getName() + " is taken", names.contains(m.getName()), false);
            }
        }
        for (Class<?> inside : face.getDeclaredClasses()) {
            Check.due(inside.getName() + " is static", Modifier.isStatic(inside.getModifiers()), true);
            for (Method m : inside.getDeclaredMethods()) {
                Check.due("the name of the inner " + m.getName() + " is taken", names.contains(m.getName()), false);
            }
        }
    }
}
