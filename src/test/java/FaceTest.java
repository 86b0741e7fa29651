import java.lang.reflect.Constructor;
import java.lang.reflect.Executable;
import java.lang.reflect.Field;
import java.lang.reflect.Method;
import java.lang.reflect.Modifier;
import java.util.Arrays;
import java.util.Set;
import java.util.TreeSet;
import java.util.stream.Collectors;

/** The public face is the document's, and nothing else of the class can be seen. */
public final class FaceTest {
    private static final Checks C = new Checks();
    private static final String[] FACE = {"sheet 3", "set 3", "copy 5", "drop 1", "line 3", "gap 1", "ink 2", "piece 3",
        "loose 0", "form 6", "seen 5", "pair 3", "letter 1", "list 0", "wipe 0", "listed 3", "open 3", "find 1", "teach 1",
        "unteach 0", "kind 1", "as 2", "ask 2", "trace 1", "count 1", "status 0"};

    public static void main(String[] args) {
        C.due("NONE", PenLines.NONE, -1000000);
        C.due("BAD", PenLines.BAD, -1000001);
        C.due("STATE", PenLines.STATE, -1000002);
        C.due("FULL", PenLines.FULL, -1000003);
        Class<?> face = PenLines.class;
        C.due("public and final, nothing else", face.getModifiers(), Modifier.PUBLIC | Modifier.FINAL);
        Constructor<?>[] constructors = face.getDeclaredConstructors();
        C.due("one constructor", constructors.length, 1);
        C.isTrue("a public one of nothing", Modifier.isPublic(constructors[0].getModifiers())
                && constructors[0].getParameterCount() == 0);
        methods(face);
        fields(face);
        C.isTrue("at most twelve classes", face.getDeclaredClasses().length < 12);
        for (Class<?> inside : face.getDeclaredClasses()) {
            C.isTrue(inside + " is static and not public", Modifier.isStatic(inside.getModifiers())
                    && !Modifier.isPublic(inside.getModifiers()) && !Modifier.isProtected(inside.getModifiers()));
        }
        C.end("FaceTest");
    }

    private static void methods(Class<?> face) {
        Set<String> due = new TreeSet<>(Arrays.asList(FACE));
        Set<String> seen = new TreeSet<>();
        for (Method method : face.getDeclaredMethods()) {
            boolean open = Modifier.isPublic(method.getModifiers());
            if (open) {
                seen.add(method.getName() + " " + method.getParameterCount());
                C.isTrue(method + " is of int", method.getReturnType() == int.class && !Modifier.isStatic(method.getModifiers())
                        && Arrays.stream(method.getParameterTypes()).allMatch(type -> type == int.class));
            } else {
                C.isTrue(method + " is private", Modifier.isPrivate(method.getModifiers()));
            }
        }
        C.isTrue("public methods are " + seen, seen.equals(due));
        Set<String> names = due.stream().map(one -> one.substring(0, one.indexOf(' '))).collect(Collectors.toSet());
        notNamed(face, names);
        for (Class<?> inside : face.getDeclaredClasses()) {
            notNamed(inside, names);
        }
    }

    private static void notNamed(Class<?> type, Set<String> names) {
        for (Executable method : type.getDeclaredMethods()) {
            C.isTrue(method + " has not the name of a public one", Modifier.isPublic(method.getModifiers())
                    || !names.contains(method.getName()));
            C.isTrue(method + " has at most seven parameters", method.getParameterCount() <= 7);
        }
    }

    private static void fields(Class<?> face) {
        Set<String> open = new TreeSet<>();
        for (Field field : face.getDeclaredFields()) {
            if (Modifier.isPublic(field.getModifiers())) {
                open.add(field.getName());
            } else {
                C.isTrue(field + " is private", Modifier.isPrivate(field.getModifiers()));
            }
        }
        C.isTrue("public constants are " + open, open.equals(Set.of("NONE", "BAD", "STATE", "FULL")));
        staticOnesAreConstants(face);
        for (Class<?> inside : face.getDeclaredClasses()) {
            staticOnesAreConstants(inside);
        }
    }

    private static void staticOnesAreConstants(Class<?> type) {
        int own = 0;
        for (Field field : type.getDeclaredFields()) {
            if (Modifier.isStatic(field.getModifiers())) {
                C.isTrue(field + " is a constant", Modifier.isFinal(field.getModifiers()) && field.getType() == int.class);
            } else {
                own++;
            }
        }
        C.isTrue(type + " has at most twenty fields", own <= 20);
    }
}
