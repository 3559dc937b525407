import java.lang.reflect.Constructor;
import java.lang.reflect.Field;
import java.lang.reflect.Method;
import java.lang.reflect.Modifier;
import java.util.ArrayList;
import java.util.List;
import java.util.TreeSet;

/** The public face is the document's, and nothing else of the class can be reached from outside. */
public final class FaceTest {
    private static final String INDEX = "IndexOutOfBoundsException";
    private static final String ARGUMENT = "IllegalArgumentException";
    private static final String STATE = "IllegalStateException";

    private static final String[] FACE = {
        "int come(int) " + INDEX + " " + STATE,
        "int chalk(int,int) " + INDEX + " " + ARGUMENT + " " + STATE,
        "int done(int) " + INDEX + " " + STATE,
        "int reader(int,boolean) " + INDEX,
        "int begin(int) " + INDEX + " " + STATE,
        "int look(int) " + INDEX + " " + STATE,
        "int set(int) " + ARGUMENT,
        "int append(int) " + ARGUMENT + " " + STATE,
        "int clearBuffer()",
        "int firstError()",
        "int play() " + ARGUMENT,
        "int undo() " + STATE,
        "int field(int) " + INDEX,
        "int notice(int,int) " + INDEX + " " + ARGUMENT,
        "int clerk(int,int) " + INDEX + " " + ARGUMENT,
        "int readerOf(int,int) " + INDEX + " " + ARGUMENT,
        "int has(int,int) " + INDEX,
        "int count(int) " + ARGUMENT,
        "int ifRead(int) " + INDEX,
        "int wouldBeHalf(int) " + INDEX,
        "int busy()",
        "double wellShare()",
        "long digest()",
    };

    private static int wrong = 0;

    public static void main(String[] args) {
        TreeSet<String> names = checkMethods();
        checkPrivateNames(names);
        checkFieldsAndConstructors();
        checkClassesInside();
        System.out.println(wrong == 0 ? "the face is as due" : wrong + " faults of the face");
        if (wrong != 0) {
            System.exit(1);
        }
    }

    private static void fault(String text) {
        wrong++;
        System.out.println(text);
    }

    private static TreeSet<String> checkMethods() {
        TreeSet<String> due = new TreeSet<>(List.of(FACE));
        TreeSet<String> found = new TreeSet<>();
        TreeSet<String> names = new TreeSet<>();
        for (Method method : OddNotice.class.getDeclaredMethods()) {
            if (Modifier.isPrivate(method.getModifiers())) {
                continue;
            }
            found.add(described(method));
            names.add(method.getName());
            if (!Modifier.isPublic(method.getModifiers()) || Modifier.isStatic(method.getModifiers())) {
                fault(method + " is not a public method of the object");
            }
        }
        if (!due.equals(found)) {
            fault("methods found " + found + ", due are " + due);
        }
        return names;
    }

    private static String described(Method method) {
        List<String> taken = new ArrayList<>();
        for (Class<?> type : method.getParameterTypes()) {
            taken.add(type.getSimpleName());
        }
        StringBuilder text = new StringBuilder();
        text.append(method.getReturnType().getSimpleName()).append(' ').append(method.getName());
        text.append('(').append(String.join(",", taken)).append(')');
        for (Class<?> type : method.getExceptionTypes()) {
            text.append(' ').append(type.getSimpleName());
        }
        return text.toString();
    }

    private static void checkPrivateNames(TreeSet<String> names) {
        for (Method method : OddNotice.class.getDeclaredMethods()) {
            if (Modifier.isPrivate(method.getModifiers()) && names.contains(method.getName())) {
                fault(method + " bears the name of a public method");
            }
        }
    }

    private static void checkFieldsAndConstructors() {
        for (Field field : OddNotice.class.getDeclaredFields()) {
            int how = field.getModifiers();
            boolean constant = field.getName().equals("NONE");
            if (constant != Modifier.isPublic(how) || !constant && !Modifier.isPrivate(how)) {
                fault(field + " can be reached wrongly");
            }
            if (Modifier.isStatic(how) && !Modifier.isFinal(how)) {
                fault(field + " is static and not final");
            }
        }
        if (OddNotice.NONE != -1) {
            fault("NONE is " + OddNotice.NONE);
        }
        Constructor<?>[] makers = OddNotice.class.getDeclaredConstructors();
        if (makers.length != 1 || !Modifier.isPublic(makers[0].getModifiers())
                || makers[0].getParameterCount() != 0) {
            fault("not one public constructor without parameters");
        }
        if (!Modifier.isFinal(OddNotice.class.getModifiers())) {
            fault("the class is not final");
        }
    }

    private static void checkClassesInside() {
        for (Class<?> inside : OddNotice.class.getDeclaredClasses()) {
            int how = inside.getModifiers();
            if (Modifier.isPublic(how) || Modifier.isProtected(how) || !Modifier.isStatic(how)) {
                fault(inside + " is not a private or package-visible static class");
            }
        }
    }
}
