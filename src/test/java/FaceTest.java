import java.lang.reflect.Constructor;
import java.lang.reflect.Field;
import java.lang.reflect.Method;
import java.lang.reflect.Modifier;
import java.util.ArrayList;
import java.util.List;
import java.util.TreeSet;

/** The public face is what the document prints, and nothing else is to be seen. */
public final class FaceTest {
    private static final String BOUNDS = "IndexOutOfBoundsException";
    private static final String ARGUMENT = "IllegalArgumentException";
    private static final String STATE = "IllegalStateException";

    private static final List<String> FACE = List.of(
            "int load() " + ARGUMENT,
            "int play(int) " + BOUNDS + " " + STATE,
            "int playBest(int) " + ARGUMENT,
            "int turn()",
            "int left()",
            "int pile(int) " + BOUNDS,
            "int coins(int) " + BOUNDS,
            "int value()",
            "int resultOf(int) " + BOUNDS,
            "int bestMove()",
            "int line(int) " + BOUNDS,
            "int margin()",
            "int search(int,int,int) " + ARGUMENT,
            "int result()",
            "int nodes()",
            "int cuts()",
            "int hits()",
            "int entries()",
            "int entryKind(int,int) " + BOUNDS,
            "int entryValue(int,int) " + BOUNDS,
            "double hitShare()",
            "int setOrder(int) " + ARGUMENT,
            "int order(int) " + BOUNDS,
            "int setLimit(int) " + ARGUMENT,
            "boolean useTable(boolean)",
            "int nodesWith(int) " + ARGUMENT,
            "int bestOrder()",
            "int append(int) " + ARGUMENT + " " + STATE,
            "int clearText()",
            "int firstError()",
            "int undo() " + STATE,
            "int savedStates()",
            "long digest()");

    private static final List<String> faults = new ArrayList<>();

    private static String names(Class<?>[] classes, String between) {
        StringBuilder names = new StringBuilder();
        for (Class<?> one : classes) {
            names.append(names.length() == 0 ? "" : between).append(one.getSimpleName());
        }
        return names.toString();
    }

    private static String told(Method method) {
        String thrown = names(method.getExceptionTypes(), " ");
        return method.getReturnType().getSimpleName() + " " + method.getName()
                + "(" + names(method.getParameterTypes(), ",") + ")"
                + (thrown.isEmpty() ? "" : " " + thrown);
    }

    private static void check(boolean holds, String fault) {
        if (!holds) {
            faults.add(fault);
        }
    }

    private static void checkMethods() {
        TreeSet<String> seen = new TreeSet<>();
        TreeSet<String> hidden = new TreeSet<>();
        for (Method method : BoundSearch.class.getDeclaredMethods()) {
            if (Modifier.isPublic(method.getModifiers())) {
                seen.add(told(method));
                check(!Modifier.isStatic(method.getModifiers()), "static: " + method);
            } else {
                hidden.add(method.getName());
                check(Modifier.isPrivate(method.getModifiers()), "not private: " + method);
            }
        }
        check(seen.equals(new TreeSet<>(FACE)), "the face is " + seen);
        for (String line : FACE) {
            String name = line.substring(line.indexOf(' ') + 1, line.indexOf('('));
            check(!hidden.contains(name), "a private method is named " + name);
        }
    }

    private static void checkFields() {
        for (Field field : BoundSearch.class.getDeclaredFields()) {
            int modifiers = field.getModifiers();
            boolean isNone = field.getName().equals("NONE");
            check(isNone ? Modifier.isPublic(modifiers) : Modifier.isPrivate(modifiers),
                    "field: " + field);
            check(!Modifier.isStatic(modifiers) || Modifier.isFinal(modifiers),
                    "static and not final: " + field);
        }
        check(BoundSearch.NONE == -999, "NONE is " + BoundSearch.NONE);
    }

    private static void checkClasses() {
        int modifiers = BoundSearch.class.getModifiers();
        check(Modifier.isPublic(modifiers) && Modifier.isFinal(modifiers), "class: " + modifiers);
        Constructor<?>[] constructors = BoundSearch.class.getDeclaredConstructors();
        check(constructors.length == 1 && constructors[0].getParameterCount() == 0
                && Modifier.isPublic(constructors[0].getModifiers()), "constructors");
        for (Class<?> inside : BoundSearch.class.getDeclaredClasses()) {
            check(Modifier.isStatic(inside.getModifiers())
                    && !Modifier.isPublic(inside.getModifiers())
                    && !Modifier.isProtected(inside.getModifiers()), "inside: " + inside);
        }
    }

    public static void main(String[] args) {
        checkMethods();
        checkFields();
        checkClasses();
        faults.forEach(System.out::println);
        System.out.println(faults.isEmpty() ? "the face is as due" : "the face is not as due");
        if (!faults.isEmpty()) {
            System.exit(1);
        }
    }
}
