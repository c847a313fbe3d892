import java.io.IOException;
import java.lang.reflect.Field;
import java.lang.reflect.Method;
import java.lang.reflect.Modifier;
import java.nio.file.Files;
import java.nio.file.Path;
import java.util.ArrayList;
import java.util.HashSet;
import java.util.List;
import java.util.Set;
import java.util.regex.Matcher;
import java.util.regex.Pattern;

/** The rules of ../shared/LANGUAGE.md that can be looked at from outside or found in the program's text. */
final class LanguageTest {
    private static final Path PROGRAM = Path.of("src", "main", "java", "RuleDiagram.java");
    private static final Set<Class<?>> CONSTANTS = Set.of(int.class, long.class, boolean.class, char.class, String.class,
        int[].class, long[].class, char[].class, byte[].class);

    public static void main(String[] args) throws IOException {
        List<Class<?>> classes = new ArrayList<>(List.of(RuleDiagram.class));
        classes.addAll(List.of(RuleDiagram.class.getDeclaredClasses()));
        Check.same("at most twelve classes", classes.size() <= 12, true);
        Set<String> open = new HashSet<>();
        for (Method method : RuleDiagram.class.getDeclaredMethods()) {
            if (Modifier.isPublic(method.getModifiers())) {
                open.add(method.getName());
            }
        }
        for (Class<?> one : classes) {
            nested(one);
            fields(one);
            methods(one, open);
        }
        text(Files.readString(PROGRAM));
        Check.end();
    }

    private static void nested(Class<?> one) {
        if (one != RuleDiagram.class) {
            int modifiers = one.getModifiers();
            boolean hidden = !Modifier.isPublic(modifiers) && !Modifier.isProtected(modifiers);
            Check.same("rule 1: " + one + " is hidden and static", hidden && Modifier.isStatic(modifiers), true);
            Check.same("rule 2: classes inside " + one, one.getDeclaredClasses().length, 0);
        }
    }

    private static void fields(Class<?> one) {
        int held = 0;
        for (Field field : one.getDeclaredFields()) {
            if (!Modifier.isStatic(field.getModifiers())) {
                held++;
            } else {
                boolean constant = Modifier.isFinal(field.getModifiers()) && CONSTANTS.contains(field.getType());
                Check.same("rule 5: " + field + " is a constant", constant, true);
            }
        }
        Check.same("rule 11: at most twenty fields in " + one, held <= 20, true);
    }

    private static void methods(Class<?> one, Set<String> open) {
        for (Method method : one.getDeclaredMethods()) {
            Check.same("rule 11: at most seven parameters of " + method, method.getParameterCount() <= 7, true);
            if (Modifier.isPrivate(method.getModifiers())) {
                Check.same("rule 1: the name of " + method + " is its own", open.contains(method.getName()), false);
            }
        }
    }

    private static void text(String program) {
        String bare = program.replaceAll("(?s)/\\*.*?\\*/|//[^\n]*", "").replaceAll("\"[^\"\n]*\"", "\"\"");
        has(bare, "package line", "(?m)^package ", 0);
        has(bare, "import but that of Arrays", "import (?!java\\.util\\.Arrays;)", 0);
        has(bare, "word that is ruled out", "\\b(synchronized|assert|finally|try|catch|instanceof|native|volatile)\\b", 0);
        has(bare, "lambda or method reference", "->|::", 0);
        has(bare, "static block", "static\\s*\\{", 0);
        has(bare, "use of System but arraycopy", "\\bSystem\\.(?!arraycopy\\b)", 0);
        has(bare, "function that throws by itself", "Exact\\b", 0);
        has(bare, "exception but the document's",
            "new (?!IllegalArgumentException|IndexOutOfBoundsException|UnsupportedOperationException)\\w*(Exception|Error)\\b", 0);
        Check.same("rule 11: lines of the longest method", longestMethod(program) <= 60, true);
    }

    private static void has(String program, String what, String pattern, int due) {
        Matcher found = Pattern.compile(pattern).matcher(program);
        int many = 0;
        while (found.find()) {
            many++;
        }
        Check.same("number of places with a " + what, many, due);
    }

    /** A method goes from a head, indented once or twice, to the next brace that is indented alike. */
    private static int longestMethod(String program) {
        int longest = 0;
        Matcher method = Pattern.compile("(?ms)^( {4}| {8})(?:(?:public|private|static|final) )*[\\w\\[\\]]+(?: \\w+)?\\([^;{]*\\{\n"
            + ".*?^\\1\\}$").matcher(program);
        int methods = 0;
        while (method.find()) {
            methods++;
            longest = Math.max(longest, method.group().split("\n").length);
        }
        System.out.println(methods + " methods, the longest one of " + longest + " lines");
        return longest;
    }
}
