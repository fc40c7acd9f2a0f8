import java.lang.reflect.Constructor;
import java.lang.reflect.Field;
import java.lang.reflect.Member;
import java.lang.reflect.Method;
import java.lang.reflect.Modifier;
import java.util.Arrays;
import java.util.TreeSet;

/** The class has the document's face and no other member that can be seen from outside. */
final class FaceTest {
    private static final String[] FACE = {
        "int about(int, int)", "int accepted(int, int, int)", "int campaign(int)",
        "int crash(int, boolean)", "int decided(int, int)", "int deliver(int)", "int lose(int)",
        "int lost()", "int members(int, int)", "int message(int, int)", "int repeat(int)",
        "int run(int)", "int submit(int, int)", "int way()", "void tick()",
    };

    private static final Due due = new Due();

    public static void main(String[] args) {
        due.same("public and final", CheapVotes.class.getModifiers(),
            Modifier.PUBLIC | Modifier.FINAL);
        methods();
        constructors();
        fields();
        due.end("FaceTest");
    }

    private static boolean isPrivate(Member member) {
        return Modifier.isPrivate(member.getModifiers());
    }

    private static void methods() {
        TreeSet<String> seen = new TreeSet<>();
        TreeSet<String> names = new TreeSet<>();
        for (Method method : CheapVotes.class.getDeclaredMethods()) {
            if (!isPrivate(method)) {
                String types = Arrays.toString(Arrays.stream(method.getParameterTypes())
                    .map(Class::getName).toArray());
                types = types.substring(1, types.length() - 1);
                seen.add(method.getReturnType() + " " + method.getName() + "(" + types + ")");
                names.add(method.getName());
                due.same("public: " + method.getName(), method.getModifiers(), Modifier.PUBLIC);
            }
        }
        TreeSet<String> face = new TreeSet<>(Arrays.asList(FACE));
        due.same("methods " + seen, seen.equals(face) ? 1 : 0, 1);
        noSecondName(CheapVotes.class, names);
        for (Class<?> inside : CheapVotes.class.getDeclaredClasses()) {
            noSecondName(inside, names);
            int modifiers = inside.getModifiers();
            due.same("static: " + inside, Modifier.isStatic(modifiers) ? 1 : 0, 1);
            due.same("hidden: " + inside, Modifier.isPublic(modifiers) ? 1 : 0, 0);
        }
    }

    private static void noSecondName(Class<?> where, TreeSet<String> names) {
        for (Method method : where.getDeclaredMethods()) {
            boolean inside = where != CheapVotes.class || isPrivate(method);
            due.same("name " + method, inside && names.contains(method.getName()) ? 1 : 0, 0);
        }
    }

    private static void constructors() {
        int seen = 0;
        for (Constructor<?> constructor : CheapVotes.class.getDeclaredConstructors()) {
            if (!isPrivate(constructor)) {
                seen++;
                due.same("takes one int", constructor.getParameterCount(), 1);
                due.same("public", constructor.getModifiers(), Modifier.PUBLIC);
            }
        }
        due.same("constructors", seen, 1);
    }

    private static void fields() {
        int seen = 0;
        for (Field field : CheapVotes.class.getDeclaredFields()) {
            if (!isPrivate(field)) {
                seen++;
                due.same("constant " + field.getName(), field.getName().equals("NONE") ? 1 : 0, 1);
                due.same("public static final", field.getModifiers(),
                    Modifier.PUBLIC | Modifier.STATIC | Modifier.FINAL);
            }
        }
        due.same("constants", seen, 1);
        due.same("NONE", CheapVotes.NONE, -1);
    }
}
