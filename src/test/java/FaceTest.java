import java.io.IOException;
import java.lang.reflect.Constructor;
import java.lang.reflect.Field;
import java.lang.reflect.Member;
import java.lang.reflect.Method;
import java.lang.reflect.Modifier;
import java.nio.file.Files;
import java.nio.file.Path;
import java.util.Arrays;
import java.util.TreeSet;
import java.util.regex.Matcher;
import java.util.regex.Pattern;
import java.util.stream.Collectors;

/** The class has the document's face and no other member that can be seen from outside. */
final class FaceTest {
    /** A method in the document's code block: what it answers, name, parameters, exceptions. */
    private static final Pattern METHOD =
        Pattern.compile("    public (\\w+) (\\w+)\\((.*)\\)(?: throws (.*))?;");

    private static final Due due = new Due();

    public static void main(String[] args) throws IOException {
        due.same("public and final", CheapVotes.class.getModifiers(),
            Modifier.PUBLIC | Modifier.FINAL);
        methods();
        constructors();
        fields();
        due.end("FaceTest");
    }

    private static boolean isPrivate(Member member) {
        return Modifier.isPrivate(member.getModifiers());
    }

    private static String names(Class<?>[] types) {
        return Arrays.stream(types).map(Class::getName).collect(Collectors.joining(", "));
    }

    private static String declared(Method method) {
        String exceptions = names(method.getExceptionTypes());
        return method.getReturnType() + " " + method.getName()
            + "(" + names(method.getParameterTypes()) + ")"
            + (exceptions.isEmpty() ? "" : " throws " + exceptions);
    }

    /** Each method as the document declares it, written as declared() writes it. */
    private static TreeSet<String> face() throws IOException {
        TreeSet<String> face = new TreeSet<>();
        for (String line : Files.readAllLines(Path.of("../shared/DOC.md"))) {
            Matcher method = METHOD.matcher(line);
            if (method.matches()) {
                String types = Arrays.stream(method.group(3).split(", "))
                    .map(parameter -> parameter.split(" ")[0]).collect(Collectors.joining(", "));
                String exceptions = method.group(4) == null ? ""
                    : " throws " + Arrays.stream(method.group(4).split(", "))
                        .map(name -> "java.lang." + name).collect(Collectors.joining(", "));
                face.add(method.group(1) + " " + method.group(2) + "(" + types + ")" + exceptions);
            }
        }
        return face;
    }

    private static void methods() throws IOException {
        TreeSet<String> seen = new TreeSet<>();
        TreeSet<String> names = new TreeSet<>();
        for (Method method : CheapVotes.class.getDeclaredMethods()) {
            if (!isPrivate(method)) {
                seen.add(declared(method));
                names.add(method.getName());
                due.same("public: " + method.getName(), method.getModifiers(), Modifier.PUBLIC);
            }
        }
        TreeSet<String> face = face();
        due.same("methods of the document", face.size(), 15);
        for (String method : face) {
            due.same("stands: " + method, seen.contains(method) ? 1 : 0, 1);
        }
        for (String method : seen) {
            due.same("is the document's: " + method, face.contains(method) ? 1 : 0, 1);
        }
        noSecondName(CheapVotes.class, names);
        for (Class<?> inside : CheapVotes.class.getDeclaredClasses()) {
            noSecondName(inside, names);
            int modifiers = inside.getModifiers();
            due.same("static: " + inside, Modifier.isStatic(modifiers) ? 1 : 0, 1);
            due.same("hidden: " + inside, Modifier.isPublic(modifiers) ? 1 : 0, 0);
        }
    }

    private static void noSecondName(Class<?> where, TreeSet<String> names) {
        for (Method method : where.getDeclaredMethods()) {
            boolean inside = where != CheapVotes.class || isPrivate(method);
            due.same("name " + method, inside && names.contains(method.getName()) ? 1 : 0, 0);
        }
    }

    private static void constructors() {
        int seen = 0;
        for (Constructor<?> constructor : CheapVotes.class.getDeclaredConstructors()) {
            if (!isPrivate(constructor)) {
                seen++;
                String types = names(constructor.getParameterTypes());
                due.same("takes one int: " + types, types.equals("int") ? 1 : 0, 1);
                due.same("declares no exception", constructor.getExceptionTypes().length, 0);
                due.same("public", constructor.getModifiers(), Modifier.PUBLIC);
            }
        }
        due.same("constructors", seen, 1);
    }

    private static void fields() {
        int seen = 0;
        for (Field field : CheapVotes.class.getDeclaredFields()) {
            if (!isPrivate(field)) {
                seen++;
                due.same("constant " + field.getName(), field.getName().equals("NONE") ? 1 : 0, 1);
                due.same("public static final", field.getModifiers(),
                    Modifier.PUBLIC | Modifier.STATIC | Modifier.FINAL);
            }
        }
        due.same("constants", seen, 1);
        due.same("NONE", CheapVotes.NONE, -1);
    }
}
