import java.lang.reflect.Constructor;
import java.lang.reflect.Field;
import java.lang.reflect.Method;
import java.lang.reflect.Modifier;
import java.util.Arrays;
import java.util.List;
import java.util.Set;
import java.util.TreeSet;

/** The class has the face that the document tells, and nothing else that can be seen from outside. */
public final class FolderRightsFace {
    private static final String MISSING = "NoSuchElementException";
    private static final String ARGUMENT = "IllegalArgumentException";
    private static final String STATE = "IllegalStateException";

    private static final List<String> FACE = List.of(
        "int user() " + STATE,
        "int group() " + STATE,
        "boolean join(int, int, boolean) " + MISSING + " " + STATE,
        "boolean leave(int, int, boolean) " + MISSING,
        "int node(int, boolean, int) " + MISSING + " " + ARGUMENT + " " + STATE,
        "int move(int, int) " + MISSING + " " + ARGUMENT + " " + STATE,
        "int remove(int) " + MISSING + " " + ARGUMENT + " " + STATE,
        "int entry(int, int, boolean, int, boolean, int, int) " + MISSING + " " + ARGUMENT + " " + STATE,
        "int dropEntry(int, int) " + MISSING,
        "boolean block(int, boolean) " + MISSING,
        "int owner(int, int) " + MISSING,
        "int rights(int, int) " + MISSING,
        "int explain(int, int, int, int) " + MISSING + " " + ARGUMENT,
        "int who(int, int, int) " + MISSING + " " + ARGUMENT,
        "int where(int, int, int) " + MISSING + " " + ARGUMENT,
        "boolean same(int, int) " + MISSING,
        "int step()",
        "int stale()",
        "boolean in(int, int) " + MISSING,
        "int about(int, int) " + MISSING + " " + ARGUMENT,
        "int count(int) " + ARGUMENT);

    private static int wrong = 0;

    public static void main(String[] args) {
        if (FolderRights.class.getModifiers() != (Modifier.PUBLIC | Modifier.FINAL)) {
            report("the class is not public and final");
        }
        checkMethods();
        checkFields();
        checkConstructors();
        checkClassesInside();
        System.out.println(wrong == 0 ? "the face is as due" : wrong + " faults in the face");
        if (wrong != 0) {
            System.exit(1);
        }
    }

    private static void report(String fault) {
        wrong++;
        System.out.println(fault);
    }

    private static void checkMethods() {
        Set<String> seen = new TreeSet<>();
        Set<String> publicNames = new TreeSet<>();
        for (Method method : FolderRights.class.getDeclaredMethods()) {
            if (Modifier.isPublic(method.getModifiers())) {
                seen.add(told(method));
                publicNames.add(method.getName());
            }
        }
        if (!seen.equals(new TreeSet<>(FACE))) {
            report("public methods: " + seen + ", due are " + new TreeSet<>(FACE));
        }
        for (Method method : FolderRights.class.getDeclaredMethods()) {
            int modifiers = method.getModifiers();
            if (!Modifier.isPublic(modifiers) && !method.isSynthetic()) {
                if (!Modifier.isPrivate(modifiers)) {
                    report(method.getName() + " can be seen from outside");
                }
                if (publicNames.contains(method.getName())) {
                    report("a private method bears the name of a public one: " + method.getName());
                }
            }
        }
    }

    private static String told(Method method) {
        StringBuilder text = new StringBuilder(method.getReturnType().getSimpleName());
        text.append(' ').append(method.getName()).append('(');
        Class<?>[] types = method.getParameterTypes();
        for (int i = 0; i < types.length; i++) {
            text.append(i == 0 ? "" : ", ").append(types[i].getSimpleName());
        }
        text.append(')');
        for (Class<?> thrown : method.getExceptionTypes()) {
            text.append(' ').append(thrown.getSimpleName());
        }
        return text.toString();
    }

    private static void checkFields() {
        for (Field field : FolderRights.class.getDeclaredFields()) {
            int modifiers = field.getModifiers();
            boolean constant = field.getName().equals("NONE");
            int asked = Modifier.PUBLIC | Modifier.STATIC | Modifier.FINAL;
            if (constant && (modifiers != asked || field.getType() != int.class)) {
                report("NONE is no public constant int");
            }
            if (!constant && !Modifier.isPrivate(modifiers)) {
                report(field.getName() + " can be seen from outside");
            }
            if (Modifier.isStatic(modifiers) && !Modifier.isFinal(modifiers)) {
                report(field.getName() + " is static state");
            }
        }
        if (FolderRights.NONE != -1) {
            report("NONE is " + FolderRights.NONE);
        }
    }

    private static void checkConstructors() {
        Constructor<?>[] all = FolderRights.class.getDeclaredConstructors();
        if (all.length != 1 || all[0].getParameterCount() != 0 || !Modifier.isPublic(all[0].getModifiers())) {
            report("constructors: " + Arrays.toString(all));
        }
    }

    private static void checkClassesInside() {
        for (Class<?> inside : FolderRights.class.getDeclaredClasses()) {
            int modifiers = inside.getModifiers();
            if (Modifier.isPublic(modifiers) || Modifier.isProtected(modifiers) || !Modifier.isStatic(modifiers)) {
                report(inside.getName() + " is not private or package-visible, and static");
            }
        }
    }
}
