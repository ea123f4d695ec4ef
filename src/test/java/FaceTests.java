import java.lang.reflect.Constructor;
import java.lang.reflect.Field;
import java.lang.reflect.Member;
import java.lang.reflect.Method;
import java.lang.reflect.Modifier;
import java.util.ArrayList;
import java.util.Arrays;
import java.util.List;
import java.util.Set;
import java.util.TreeSet;

/** The public face of the document: nothing is missing in it, and nothing stands beside it. */
public final class FaceTests {
    private static final String BOUNDS = " throws IndexOutOfBoundsException";
    private static final String BOTH = BOUNDS + " IllegalArgumentException";
    private static final String ARGUMENT = " throws IllegalArgumentException";
    private static final String STATE = " throws IllegalStateException";
    private static final String[] METHODS = {
        "int put(int int int int)" + BOTH,
        "int add(int int int)" + BOTH,
        "int include(int int int)" + BOTH,
        "int exclude(int int int)" + BOTH,
        "int delete(int int)" + BOUNDS,
        "int merge(int int)" + BOTH,
        "int mergeAll()",
        "int appendText(int)" + ARGUMENT + " IllegalStateException",
        "int clearText()",
        "int errorPosition()",
        "int runText()" + STATE,
        "int undo()" + STATE,
        "int latest(int int)" + BOUNDS,
        "int sibling(int int int)" + BOUNDS,
        "int greatest(int int)" + BOUNDS,
        "int counter(int int)" + BOUNDS,
        "int elements(int int)" + BOUNDS,
        "int entries(int int int)" + BOUNDS,
        "boolean exists(int int)" + BOUNDS,
        "float mean(int int)" + BOUNDS,
        "int seen(int int)" + BOUNDS,
        "int clock(int)" + BOUNDS,
        "int relation(int int)" + BOUNDS,
        "int conflicts(int)" + BOUNDS,
        "double agreement()",
        "int latestMerge(int)" + ARGUMENT,
        "int ifMerged(int int int)" + BOTH,
        "int savedStates()",
        "int textLength()"};
    private static final String[] CONSTANTS = {
        "NONE -1", "LATEST 0", "SIBLINGS 1", "GREATEST 2", "COUNTER 3", "SET 4",
        "EQUAL 0", "BEFORE 1", "AFTER 2", "CONCURRENT 3"};

    private static int wrong = 0;

    public static void main(String[] args) throws IllegalAccessException {
        Class<?> face = CausalTable.class;
        due("the class", Modifier.toString(face.getModifiers()), "public final");
        due("its methods", methods(face), new TreeSet<>(Arrays.asList(METHODS)));
        due("its constants", constants(face), new TreeSet<>(Arrays.asList(CONSTANTS)));
        due("its constructors", constructors(face), List.of("public 0 0"));
        dueHidden(face);
        System.out.println(wrong == 0 ? "the face is as due" : wrong + " parts are not as due");
        if (wrong != 0) {
            System.exit(1);
        }
    }

    private static void due(String what, Object got, Object want) {
        if (!got.equals(want)) {
            wrong++;
            System.out.println(what + ": " + got + ", due is " + want);
        }
    }

    private static Set<String> methods(Class<?> face) {
        Set<String> found = new TreeSet<>();
        for (Method m : face.getDeclaredMethods()) {
            if (Modifier.isPublic(m.getModifiers())) {
                String thrown = names(m.getExceptionTypes());
                found.add(m.getReturnType().getSimpleName() + " " + m.getName() + "("
                        + names(m.getParameterTypes()) + ")"
                        + (thrown.isEmpty() ? "" : " throws " + thrown)
                        + (Modifier.isStatic(m.getModifiers()) ? " static" : ""));
            }
        }
        return found;
    }

    private static String names(Class<?>[] types) {
        List<String> names = new ArrayList<>();
        for (Class<?> type : types) {
            names.add(type.getSimpleName());
        }
        return String.join(" ", names);
    }

    private static Set<String> constants(Class<?> face) throws IllegalAccessException {
        Set<String> found = new TreeSet<>();
        for (Field f : face.getDeclaredFields()) {
            if (Modifier.isPublic(f.getModifiers())) {
                due(f.getName(), f.toString(), "public static final int CausalTable." + f.getName());
                found.add(f.getName() + " " + f.getInt(null));
            }
        }
        return found;
    }

    private static List<String> constructors(Class<?> face) {
        List<String> found = new ArrayList<>();
        for (Constructor<?> c : face.getDeclaredConstructors()) {
            found.add(Modifier.toString(c.getModifiers()) + " " + c.getParameterCount() + " "
                    + c.getExceptionTypes().length);
        }
        return found;
    }

    /** What is not public is private, and no private method bears the name of a public one. */
    private static void dueHidden(Class<?> face) {
        List<Member> members = new ArrayList<>(Arrays.asList(face.getDeclaredFields()));
        members.addAll(Arrays.asList(face.getDeclaredMethods()));
        Set<String> publicNames = new TreeSet<>();
        for (Method m : face.getMethods()) {
            publicNames.add(m.getName());
        }
        for (Member m : members) {
            boolean isHidden = Modifier.isPrivate(m.getModifiers());
            due(m.getName() + " is public or private",
                    isHidden || Modifier.isPublic(m.getModifiers()), true);
            if (isHidden && m instanceof Method) {
                due(m.getName() + " is a name of the face", publicNames.contains(m.getName()), false);
            }
        }
        for (Class<?> inside : face.getDeclaredClasses()) {
            due(inside.getSimpleName() + " is not public",
                    Modifier.isPublic(inside.getModifiers())
                            || Modifier.isProtected(inside.getModifiers()), false);
        }
    }
}
