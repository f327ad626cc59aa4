import java.lang.reflect.Constructor;
import java.lang.reflect.Field;
import java.lang.reflect.Method;
import java.lang.reflect.Modifier;
import java.util.TreeSet;

/** The public face is the one of the document, with its exceptions, and there is no other member outside the class. */
public final class FaceTest {
    private static final String INDEX = "IndexOutOfBoundsException";
    private static final String ARGUMENT = "IllegalArgumentException";
    private static final String STATE = "IllegalStateException";
    private static final String ELEMENT = "NoSuchElementException";
    private static final String OPERATION = "UnsupportedOperationException";

    private static final String[] FACE = {
        "int giveRange 3 " + INDEX + " " + ARGUMENT + " " + STATE,
        "int open 1 " + INDEX + " " + STATE,
        "int addLine 2 " + INDEX + " " + ARGUMENT + " " + STATE,
        "int lay 1 " + INDEX + " " + STATE,
        "int landAfter 2 " + INDEX + " " + STATE + " " + OPERATION,
        "int setPriority 2 " + INDEX + " " + ARGUMENT,
        "int comment 2 " + INDEX + " " + ELEMENT + " " + STATE,
        "int resolve 1 " + INDEX + " " + STATE,
        "int approve 2 " + INDEX + " " + ELEMENT + " " + STATE,
        "int withdraw 2 " + INDEX + " " + ELEMENT + " " + STATE,
        "int land 1 " + INDEX + " " + OPERATION,
        "int landAll 0",
        "char reasonAgainst 1 " + INDEX + " " + ELEMENT,
        "int missingUser 1 " + INDEX + " " + ELEMENT,
        "int landedAt 1 " + ELEMENT,
        "int mainLines 0",
        "int mainLine 1 " + ELEMENT,
        "int rounds 1 " + INDEX,
        "int lines 2 " + INDEX + " " + ELEMENT,
        "int lineAt 3 " + INDEX + " " + ELEMENT,
        "int edits 3 " + INDEX + " " + ELEMENT,
        "int editsByWays 3 " + INDEX + " " + ELEMENT,
        "int ownerOf 1 " + ARGUMENT + " " + ELEMENT,
        "boolean needs 2 " + INDEX,
        "int placeIn 2 " + INDEX + " " + ELEMENT,
        "int placeByComparing 2 " + INDEX + " " + ELEMENT,
        "boolean isOpen 1 " + INDEX,
        "int openComments 1 " + INDEX,
        "boolean hasApproved 2 " + INDEX,
        "boolean isStale 2 " + INDEX + " " + ELEMENT,
    };

    private FaceTest() {
    }

    public static void main(String[] args) {
        TreeSet<String> due = new TreeSet<>();
        for (String method : FACE) {
            due.add(method);
        }
        TreeSet<String> got = new TreeSet<>();
        TreeSet<String> publicNames = new TreeSet<>();
        for (Method method : ReviewBench.class.getDeclaredMethods()) {
            if (!Modifier.isPrivate(method.getModifiers())) {
                got.add(said(method));
                publicNames.add(method.getName());
            }
        }
        Check.due("the face", due, () -> got);
        for (Method method : ReviewBench.class.getDeclaredMethods()) {
            boolean hidden = Modifier.isPrivate(method.getModifiers());
            Check.due("a private method has the name " + method.getName() + " of a public one", false,
                () -> hidden && publicNames.contains(method.getName()));
        }
        for (Field field : ReviewBench.class.getDeclaredFields()) {
            Check.due("the field " + field.getName() + " is private", true,
                () -> Modifier.isPrivate(field.getModifiers()));
        }
        for (Class<?> inside : ReviewBench.class.getDeclaredClasses()) {
            for (Method method : inside.getDeclaredMethods()) {
                Check.due("a method inside has the name " + method.getName() + " of a public one", false,
                    () -> publicNames.contains(method.getName()));
            }
        }
        checkClass();
        Check.end("FaceTest");
    }

    private static void checkClass() {
        int modifiers = ReviewBench.class.getModifiers();
        Check.due("the class is public and final", true, () -> Modifier.isPublic(modifiers) && Modifier.isFinal(modifiers));
        Constructor<?>[] constructors = ReviewBench.class.getDeclaredConstructors();
        Check.due("the constructors", 1, () -> constructors.length);
        Check.due("the constructor is public", true, () -> Modifier.isPublic(constructors[0].getModifiers()));
        Check.due("the constructor's parameters", 0, () -> constructors[0].getParameterCount());
        for (Class<?> inside : ReviewBench.class.getDeclaredClasses()) {
            Check.due("the class " + inside.getSimpleName() + " is static, and private or package-visible", true,
                () -> Modifier.isStatic(inside.getModifiers()) && !Modifier.isPublic(inside.getModifiers())
                    && !Modifier.isProtected(inside.getModifiers()));
        }
    }

    private static String said(Method method) {
        StringBuilder said = new StringBuilder();
        said.append(method.getReturnType().getSimpleName()).append(' ').append(method.getName()).append(' ');
        said.append(method.getParameterCount());
        for (Class<?> parameter : method.getParameterTypes()) {
            if (parameter != int.class) {
                said.append(" not-int");
            }
        }
        for (Class<?> thrown : method.getExceptionTypes()) {
            said.append(' ').append(thrown.getSimpleName());
        }
        if (!Modifier.isPublic(method.getModifiers()) || Modifier.isStatic(method.getModifiers())) {
            said.append(" not a public method of the object");
        }
        return said.toString();
    }
}
