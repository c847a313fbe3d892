import java.io.File;
import java.io.IOException;
import java.lang.reflect.Method;
import java.lang.reflect.Modifier;
import java.net.URL;
import java.net.URLClassLoader;
import java.nio.file.Files;
import java.nio.file.Path;
import java.util.ArrayList;
import java.util.List;
import java.util.regex.Matcher;
import java.util.regex.Pattern;
import javax.tools.ToolProvider;

/** README.md says how to use the class: what it says is so. */
public final class ReadmeTest {
    private static final Pattern EXAMPLE = Pattern.compile("```java\n(.*?)```", Pattern.DOTALL);

    /** A call with the number that it answers, which stands first in the comment behind it. */
    private static final Pattern ANSWERED = Pattern.compile("(x\\.\\w+\\(.*\\)); *// (-?\\d+)\\b.*");

    public static void main(String[] args) throws Exception {
        String readme = Files.readString(Path.of("README.md"));
        examplesAnswerAsTheySay(readme);
        everyCallIsNamed(readme);
        everyTestIsNamed(readme);
        Check.end();
    }

    private static void examplesAnswerAsTheySay(String readme) throws Exception {
        Matcher examples = EXAMPLE.matcher(readme);
        int count = 0;
        while (examples.find()) {
            answersAsItSays(examples.group(1), "Example" + count);
            count++;
        }
        Check.same("examples in README.md", count, 2);
    }

    private static void answersAsItSays(String example, String name) throws Exception {
        StringBuilder source = new StringBuilder();
        List<String> calls = new ArrayList<>();
        List<Integer> due = new ArrayList<>();
        for (String line : example.split("\n")) {
            Matcher answered = ANSWERED.matcher(line);
            if (answered.matches()) {
                source.append("answers[" + calls.size() + "] = " + answered.group(1) + ";\n");
                calls.add(answered.group(1));
                due.add(Integer.valueOf(answered.group(2)));
            } else {
                Check.same("README.md has an answer behind '" + line + "' or none", line.contains("//"), false);
                source.append(line).append('\n');
            }
        }
        int[] got = run(name, source.toString(), calls.size());
        for (int i = 0; i < got.length; i++) {
            Check.same(calls.get(i) + " in README.md", got[i], due.get(i));
        }
    }

    private static int[] run(String name, String lines, int size) throws Exception {
        Path place = Files.createTempDirectory("readme");
        Path file = place.resolve(name + ".java");
        try {
            Files.writeString(file, "public final class " + name + " {\npublic static int[] run() {\nint[] answers = new int["
                    + size + "];\n" + lines + "return answers;\n}\n}\n");
            String classes = System.getProperty("java.class.path");
            int failed = ToolProvider.getSystemJavaCompiler().run(null, null, null, "-cp", classes, file.toString());
            Check.same("what javac says of " + name + " in README.md", failed, 0);
            return failed == 0 ? answersOf(place, name) : new int[0];
        } finally {
            removeAll(place);
        }
    }

    private static int[] answersOf(Path place, String name) throws Exception {
        try (URLClassLoader loader = new URLClassLoader(new URL[] {place.toUri().toURL()})) {
            return (int[]) loader.loadClass(name).getMethod("run").invoke(null);
        }
    }

    private static void removeAll(Path place) throws IOException {
        for (File file : place.toFile().listFiles()) {
            Files.delete(file.toPath());
        }
        Files.delete(place);
    }

    private static void everyCallIsNamed(String readme) {
        for (Method method : RuleDiagram.class.getDeclaredMethods()) {
            if (Modifier.isPublic(method.getModifiers())) {
                String call = "`" + method.getName() + "(";
                Check.same("README.md tells of " + call, readme.contains(call), true);
            }
        }
    }

    private static void everyTestIsNamed(String readme) {
        for (String file : Path.of("src", "test", "java").toFile().list()) {
            String name = "`" + file.replace(".java", "") + "`";
            Check.same("README.md tells of " + name, readme.contains(name), true);
        }
    }
}
