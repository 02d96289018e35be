import java.lang.reflect.Constructor;
import java.lang.reflect.Field;
import java.lang.reflect.Method;
import java.lang.reflect.Modifier;
import java.util.Arrays;
import java.util.Set;
import java.util.TreeSet;

/** The public face is that of the document, and there is nothing else that is not private. */
public final class FaceTest {
    private static final String[] FACE = {
        "int addStep(char, int) IllegalArgumentException IllegalStateException",
        "int start() IllegalStateException",
        "char phase()",
        "int goToBoth() IllegalStateException UnsupportedOperationException",
        "int switchOver() IllegalStateException UnsupportedOperationException",
        "int goBack() IllegalStateException UnsupportedOperationException",
        "int end() IllegalStateException",
        "boolean write(int, int, int) IllegalArgumentException IllegalStateException",
        "boolean delete(int) IllegalArgumentException IllegalStateException",
        "int read(int, boolean) IllegalArgumentException NoSuchElementException",
        "int nextNumber() IllegalStateException",
        "int readPart(int) IllegalArgumentException IllegalStateException",
        "int putDown(int) IndexOutOfBoundsException",
        "int follow(int) IllegalArgumentException IllegalStateException",
        "int left()",
        "int behind()",
        "int parts()",
        "char state(int) IllegalArgumentException",
        "int stamp(int) IllegalArgumentException NoSuchElementException",
        "int turned(int, boolean) IllegalArgumentException NoSuchElementException UnsupportedOperationException",
        "int turnedBack(int, boolean) IllegalArgumentException NoSuchElementException UnsupportedOperationException",
        "long sum(boolean, int, int) IllegalArgumentException",
        "int firstUnlike(int, int) IllegalArgumentException NoSuchElementException",
        "int compared()",
        "char goal(int) IllegalArgumentException IllegalStateException",
        "float movedShare() ArithmeticException",
        "boolean isAllMoved()",
        "double meanStamp() ArithmeticException",
    };

    public static void main(String[] args) {
        int modifiers = StoreMover.class.getModifiers();
        Check.same("public final", Modifier.isPublic(modifiers) && Modifier.isFinal(modifiers), true);
        theMethodsAreThoseOfTheDocument();
        thereIsOneConstructor();
        theRestIsPrivate();
        Check.end();
    }

    private static void theMethodsAreThoseOfTheDocument() {
        Set<String> found = new TreeSet<>();
        Set<String> publicNames = new TreeSet<>();
        for (Method method : StoreMover.class.getDeclaredMethods()) {
            if (Modifier.isPublic(method.getModifiers())) {
                found.add(tell(method));
                publicNames.add(method.getName());
            }
        }
        Check.same("the public methods", found, new TreeSet<>(Arrays.asList(FACE)));
        for (Method method : StoreMover.class.getDeclaredMethods()) {
            if (!Modifier.isPublic(method.getModifiers())) {
                Check.same("private " + method.getName() + " has a public name",
                        publicNames.contains(method.getName()), false);
            }
        }
    }

    private static void thereIsOneConstructor() {
        Constructor<?>[] all = StoreMover.class.getDeclaredConstructors();
        Check.same("constructors", all.length, 1);
        Check.same("the constructor is public", Modifier.isPublic(all[0].getModifiers()), true);
        Check.same("its parameters", all[0].getParameterCount(), 0);
        Check.same("its exceptions", all[0].getExceptionTypes().length, 0);
    }

    private static void theRestIsPrivate() {
        for (Method method : StoreMover.class.getDeclaredMethods()) {
            int modifiers = method.getModifiers();
            Check.same(method.getName() + " is public or private",
                    Modifier.isPublic(modifiers) || Modifier.isPrivate(modifiers), true);
        }
        for (Field field : StoreMover.class.getDeclaredFields()) {
            int modifiers = field.getModifiers();
            Check.same(field.getName() + " is private", Modifier.isPrivate(modifiers), true);
            Check.same(field.getName() + " is final if static",
                    !Modifier.isStatic(modifiers) || Modifier.isFinal(modifiers), true);
        }
        for (Class<?> inside : StoreMover.class.getDeclaredClasses()) {
            int modifiers = inside.getModifiers();
            Check.same(inside.getName() + " is private and static",
                    Modifier.isPrivate(modifiers) && Modifier.isStatic(modifiers), true);
        }
    }

    private static String tell(Method method) {
        StringBuilder text = new StringBuilder();
        text.append(method.getReturnType()).append(' ').append(method.getName()).append('(');
        for (int i = 0; i < method.getParameterCount(); i++) {
            text.append(i > 0 ? ", " : "").append(method.getParameterTypes()[i]);
        }
        text.append(')');
        for (Class<?> thrown : method.getExceptionTypes()) {
            text.append(' ').append(thrown.getSimpleName());
        }
        return text.toString();
    }
}
