import java.lang.reflect.Constructor;
import java.lang.reflect.Field;
import java.lang.reflect.Method;
import java.lang.reflect.Modifier;
import java.util.Set;
import java.util.TreeSet;

/** The public face: just the members of the document, and nothing else that can be seen from outside. */
public final class FaceTest {
    private static final String BOUNDS = " throws IndexOutOfBoundsException";
    private static final String ARGUMENT = " throws IllegalArgumentException";
    private static final String STATE = " throws IllegalStateException";

    public static void main(String[] args) {
        Class<?> face = Aislewright.class;
        Check.same("modifiers", "public final", Modifier.toString(face.getModifiers()));
        Check.same("package", "", face.getPackageName());
        Check.same("members", text(due()), text(membersOf(face)));
        for (Class<?> inside : face.getDeclaredClasses()) {
            boolean hidden = !Modifier.isPublic(inside.getModifiers()) && !Modifier.isProtected(inside.getModifiers());
            Check.same(inside + " is hidden and static", "true true", hidden + " " + Modifier.isStatic(inside.getModifiers()));
        }
        privateNames(face);
        Check.end("FaceTest");
    }

    private static Set<String> due() {
        Set<String> due = new TreeSet<>();
        due.add("public static final int NONE");
        due.add("public (int,int,int)");
        due.add("public int put(int,int,int)" + BOUNDS + STATE);
        due.add("public int layOut()" + STATE);
        due.add("public int distance(int,int)" + BOUNDS + STATE);
        due.add("public int order(int)" + ARGUMENT + STATE);
        due.add("public int line(int,int,int)" + BOUNDS + ARGUMENT + STATE);
        due.add("public int setCapacity(int)" + ARGUMENT + STATE);
        due.add("public int planWave(int)" + ARGUMENT + STATE);
        due.add("public int lengthByTrying(int)" + BOUNDS + STATE);
        due.add("public int stopAt(int,int)" + BOUNDS);
        for (String name : new String[] {"placeOf", "turnover", "stateOf", "lengthAlone", "pick", "batchOf", "linesOf",
            "lengthOf", "lengthThrough", "stops", "inAisle"}) {
            due.add("public int " + name + "(int)" + BOUNDS);
        }
        for (String name : new String[] {"orders", "batches", "walked"}) {
            due.add("public int " + name + "()");
        }
        due.add("public double share()");
        return due;
    }

    private static Set<String> membersOf(Class<?> face) {
        Set<String> members = new TreeSet<>();
        for (Field field : face.getDeclaredFields()) {
            add(members, field.getModifiers(), field.getType() + " " + field.getName());
        }
        for (Constructor<?> made : face.getDeclaredConstructors()) {
            add(members, made.getModifiers(), types(made.getParameterTypes()) + thrown(made.getExceptionTypes()));
        }
        for (Method method : face.getDeclaredMethods()) {
            String head = method.getReturnType() + " " + method.getName() + types(method.getParameterTypes());
            add(members, method.getModifiers(), head + thrown(method.getExceptionTypes()));
        }
        return members;
    }

    private static void add(Set<String> members, int modifiers, String text) {
        if (!Modifier.isPrivate(modifiers)) {
            members.add(Modifier.toString(modifiers) + " " + text);
        }
    }

    private static String types(Class<?>[] types) {
        StringBuilder text = new StringBuilder("(");
        for (Class<?> type : types) {
            text.append(text.length() > 1 ? "," : "").append(type);
        }
        return text.append(")").toString();
    }

    private static String thrown(Class<?>[] types) {
        StringBuilder text = new StringBuilder();
        for (Class<?> type : types) {
            text.append(" throws ").append(type.getSimpleName());
        }
        return text.toString();
    }

    private static String text(Set<String> lines) {
        return String.join("\n", lines);
    }

    /** No private method, nor one of a class inside, bears the name of a public one. */
    private static void privateNames(Class<?> face) {
        Set<String> names = new TreeSet<>();
        for (Method method : face.getDeclaredMethods()) {
            if (Modifier.isPublic(method.getModifiers())) {
                names.add(method.getName());
            }
        }
        for (Method method : face.getDeclaredMethods()) {
            if (Modifier.isPrivate(method.getModifiers())) {
                Check.same("private " + method.getName(), "false", "" + names.contains(method.getName()));
            }
        }
        for (Class<?> inside : face.getDeclaredClasses()) {
            for (Method method : inside.getDeclaredMethods()) {
                Check.same(inside.getName() + " " + method.getName(), "false", "" + names.contains(method.getName()));
            }
        }
    }
}
