import java.io.ByteArrayOutputStream;
import java.io.IOException;
import java.io.PrintStream;
import java.lang.reflect.Method;
import java.lang.reflect.Modifier;
import java.net.URL;
import java.net.URLClassLoader;
import java.nio.file.Files;
import java.nio.file.Path;
import java.util.ArrayList;
import java.util.List;
import javax.tools.ToolProvider;

/** README.md holds: its example answers what stands beside it, and it tells of every call. */
public final class ReadmeTest {
    private static final String BEGINS = "```java\n";
    private static final String ENDS = "```\n";

    public static void main(String[] args) throws Exception {
        String readme = Files.readString(Path.of("README.md"));
        everyCallIsTold(readme);
        int from = readme.indexOf(BEGINS) + BEGINS.length();
        String program = readme.substring(from, readme.indexOf(ENDS, from));
        List<String> want = answersBeside(program);
        List<String> got = answersOf(program);
        Check.due("answers of the example", got.size(), want.size());
        for (int i = 0; i < want.size() && i < got.size(); i++) {
            due("the example's answer " + i + ", " + got.get(i) + " and not " + want.get(i),
                    got.get(i).equals(want.get(i)));
        }
        Check.end();
    }

    private static void due(String what, boolean holds) {
        Check.due(what, holds ? 1 : 0, 1);
    }

    private static void everyCallIsTold(String readme) {
        for (Method method : LayerDesk.class.getDeclaredMethods()) {
            if (Modifier.isPublic(method.getModifiers())) {
                due("README.md tells of " + method.getName(), readme.contains("| `" + method.getName() + "("));
            }
        }
    }

    private static List<String> answersBeside(String program) {
        List<String> answers = new ArrayList<>();
        for (String line : program.split("\n")) {
            int comment = line.indexOf("// ");
            if (comment >= 0) {
                answers.add(line.substring(comment + 3, line.indexOf(':', comment)));
            }
        }
        return answers;
    }

    private static List<String> answersOf(String program) throws Exception {
        Path folder = Files.createTempDirectory("readme");
        Path source = folder.resolve("Example.java");
        try {
            Files.writeString(source, program);
            int compiled = ToolProvider.getSystemJavaCompiler().run(null, null, null,
                    "-cp", System.getProperty("java.class.path"), "-d", folder.toString(), source.toString());
            Check.due("the example's compilation", compiled, 0);
            return compiled == 0 ? printedBy(folder) : List.of();
        } finally {
            Files.deleteIfExists(folder.resolve("Example.class"));
            Files.deleteIfExists(source);
            Files.deleteIfExists(folder);
        }
    }

    private static List<String> printedBy(Path folder) throws IOException, ReflectiveOperationException {
        PrintStream screen = System.out;
        ByteArrayOutputStream printed = new ByteArrayOutputStream();
        try (URLClassLoader loader = new URLClassLoader(new URL[] {folder.toUri().toURL()})) {
            Method example = loader.loadClass("Example").getMethod("main", String[].class);
            System.setOut(new PrintStream(printed));
            example.invoke(null, (Object) new String[0]);
        } finally {
            System.out.flush();
            System.setOut(screen);
        }
        return printed.toString().lines().toList();
    }
}
