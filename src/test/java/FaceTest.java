import java.lang.reflect.Constructor;
import java.lang.reflect.Field;
import java.lang.reflect.Member;
import java.lang.reflect.Method;
import java.lang.reflect.Modifier;
import java.util.Set;
import java.util.TreeSet;

/** The public face: just the members of the document, with just the exceptions that it lists. */
public final class FaceTest {
    private static final String[] DUE = {
        "int addThing int int IndexOutOfBoundsException IllegalArgumentException IllegalStateException",
        "int setMask int int IndexOutOfBoundsException IllegalArgumentException",
        "int setBase int int IndexOutOfBoundsException IllegalArgumentException",
        "int give int int IndexOutOfBoundsException",
        "int grant int int int int int IndexOutOfBoundsException IllegalArgumentException IllegalStateException",
        "int revoke int NoSuchElementException",
        "int cheer int int IndexOutOfBoundsException IllegalArgumentException",
        "int pass int IllegalArgumentException IllegalStateException",
        "int held int int IndexOutOfBoundsException",
        "int person int int IndexOutOfBoundsException IllegalArgumentException",
        "int thing int int IndexOutOfBoundsException IllegalArgumentException",
        "int grantOf int int NoSuchElementException IllegalArgumentException",
        "int chain int int IndexOutOfBoundsException",
        "int link int int int IndexOutOfBoundsException",
        "int why int int int IndexOutOfBoundsException IllegalArgumentException",
        "int value int IllegalArgumentException",
        "int entry int int IndexOutOfBoundsException IllegalArgumentException",
        "int lostBy int IndexOutOfBoundsException",
        "int mostNeeded",
        "int seenIn int IllegalArgumentException",
        "int gainBy int int int int int IndexOutOfBoundsException IllegalArgumentException",
        "int patience int IndexOutOfBoundsException",
        "double meanChain",
        "int append int IllegalArgumentException IllegalStateException",
        "int clearText",
        "int carryOut",
        "int undo IllegalStateException",
        "long digest",
    };

    private static final Check check = new Check();

    public static void main(String[] args) {
        Class<LentRights> face = LentRights.class;
        check.holds("public", Modifier.isPublic(face.getModifiers()));
        check.holds("final", Modifier.isFinal(face.getModifiers()));
        methods(face);
        fields(face);
        classes(face);
        check.finish();
    }

    private static void methods(Class<?> face) {
        Set<String> due = new TreeSet<>(Set.of(DUE));
        Set<String> names = new TreeSet<>();
        for (Method method : face.getDeclaredMethods()) {
            if (Modifier.isPublic(method.getModifiers())) {
                names.add(method.getName());
                check.holds("due: " + told(method), due.remove(told(method)));
                check.holds("not static: " + method, !Modifier.isStatic(method.getModifiers()));
            }
        }
        check.holds("none is missing: " + due, due.isEmpty());
        for (Method method : face.getDeclaredMethods()) {
            if (!Modifier.isPublic(method.getModifiers())) {
                isPrivate(method);
                check.holds("another name: " + method, !names.contains(method.getName()));
            }
        }
        for (Class<?> inside : face.getDeclaredClasses()) {
            for (Method method : inside.getDeclaredMethods()) {
                check.holds("another name: " + method, !names.contains(method.getName()));
            }
        }
        Constructor<?>[] constructors = face.getDeclaredConstructors();
        check.same("constructors", 1, constructors.length);
        check.holds("public", Modifier.isPublic(constructors[0].getModifiers()));
        check.same("without parameters", 0, constructors[0].getParameterCount());
    }

    private static String told(Method method) {
        StringBuilder told = new StringBuilder();
        told.append(method.getReturnType().getSimpleName()).append(' ').append(method.getName());
        for (Class<?> type : method.getParameterTypes()) {
            told.append(' ').append(type.getSimpleName());
        }
        for (Class<?> type : method.getExceptionTypes()) {
            told.append(' ').append(type.getSimpleName());
        }
        return told.toString();
    }

    private static void fields(Class<?> face) {
        for (Field field : face.getDeclaredFields()) {
            boolean isStatic = Modifier.isStatic(field.getModifiers());
            check.holds("no static state: " + field, !isStatic || Modifier.isFinal(field.getModifiers()));
            if (field.getName().equals("NONE")) {
                check.same("NONE", Modifier.PUBLIC | Modifier.STATIC | Modifier.FINAL, field.getModifiers());
                check.holds("an int", field.getType() == int.class);
            } else {
                isPrivate(field);
            }
        }
    }

    private static void classes(Class<?> face) {
        check.holds("some twelve classes at most", face.getDeclaredClasses().length < 12);
        for (Class<?> inside : face.getDeclaredClasses()) {
            int modifiers = inside.getModifiers();
            check.holds("static: " + inside, Modifier.isStatic(modifiers));
            check.holds("hidden: " + inside, !Modifier.isPublic(modifiers) && !Modifier.isProtected(modifiers));
        }
    }

    private static void isPrivate(Member member) {
        check.holds("private: " + member, Modifier.isPrivate(member.getModifiers()));
    }
}
