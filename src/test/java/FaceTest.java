import java.io.IOException;
import java.lang.reflect.Constructor;
import java.lang.reflect.Field;
import java.lang.reflect.Member;
import java.lang.reflect.Method;
import java.lang.reflect.Modifier;
import java.nio.file.Files;
import java.nio.file.Path;
import java.util.Arrays;
import java.util.TreeSet;

/** The public face, and promise 1: a new object. */
final class FaceTest {
    private static final String FACE = "connection(int, int), count(int, int), differing(), edges(int), "
        + "first(int, int, int, int, int), nodes(int, int), pass(int, int, int, int, int), prune(int), put(int), "
        + "read(int), remove(int, int), rule(int, int, int), rules(int), swap(int, int), used(int, int), "
        + "verdict(int, int, int, int, int), witness(int)";

    public static void main(String[] args) throws IOException {
        face();
        headsAsInTheDocument();
        newObject();
        objectsAreApart();
        Check.end();
    }

    private static void face() {
        Check.same("NONE", RuleDiagram.NONE, -1);
        Check.same("final", Modifier.isFinal(RuleDiagram.class.getModifiers()), true);
        TreeSet<String> methods = new TreeSet<>();
        for (Method method : RuleDiagram.class.getDeclaredMethods()) {
            if (isOpen(method)) {
                String parameters = Arrays.toString(method.getParameterTypes()).replace('[', '(').replace(']', ')');
                methods.add(method.getName() + parameters);
                boolean isVoid = method.getName().equals("remove") || method.getName().equals("swap");
                Check.same(method.getName(), method.getReturnType(), isVoid ? void.class : int.class);
            }
        }
        Check.same("methods", String.join(", ", methods), FACE);
        for (Field field : RuleDiagram.class.getDeclaredFields()) {
            Check.same("field " + field.getName() + " is open", isOpen(field), field.getName().equals("NONE"));
        }
        Constructor<?>[] constructors = RuleDiagram.class.getDeclaredConstructors();
        Check.same("constructors", constructors.length, 1);
        Check.same("its parameters", constructors[0].getParameterCount(), 0);
    }

    /** With the names of the parameters and what is thrown, which the document's face tells too. */
    private static void headsAsInTheDocument() throws IOException {
        String document = Files.readString(Path.of("..", "shared", "DOC.md"));
        String program = Files.readString(Path.of("src", "main", "java", "RuleDiagram.java")).replaceAll("\\s+", " ");
        int heads = 0;
        for (String line : document.split("\n")) {
            if (line.matches(" {4}public .*;")) {
                heads++;
                String head = line.trim().replaceAll(";$", "");
                boolean isThere = program.contains(head + " {") || program.contains(head + ";");
                Check.same("'" + head + "' stands in the program", isThere, true);
            }
        }
        Check.same("heads in the document", heads, 19);
    }

    private static boolean isOpen(Member member) {
        return !Modifier.isPrivate(member.getModifiers()) && !member.isSynthetic();
    }

    private static void newObject() {
        for (int list = 0; list < 2; list++) {
            RuleDiagram x = new RuleDiagram();
            Check.same("rules", x.rules(list), 0);
            Check.same("verdict", x.verdict(list, 1, 2, 3, 0), 0);
            Check.same("first", x.first(list, 1, 2, 3, 0), RuleDiagram.NONE);
            Check.same("count", x.count(list, 0), 1 << 28);
            Check.same("edges", x.edges(list), 0);
            Check.same("connections", Check.connections(x), "-1 -1 -1 -1;".repeat(4));
            Check.same("differing", x.differing(), 0);
            Check.same("rules of the empty text", x.read(list), 0);
            Check.same("signs", x.put(0), 0);
        }
    }

    private static void objectsAreApart() {
        RuleDiagram x = Check.with("allow;", "log;");
        x.pass(0, 1, 2, 3, 0);
        x.put('a');
        RuleDiagram y = new RuleDiagram();
        Check.same("rules of another object", y.rules(0) + y.rules(1), 0);
        Check.same("text of another object", y.put('b'), 1);
        Check.same("connections of another object", y.connection(0, 0), RuleDiagram.NONE);
        Check.same("what is left", x.rules(0) + x.rules(1), 2);
    }
}
