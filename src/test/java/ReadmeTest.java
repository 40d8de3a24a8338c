import java.io.File;
import java.io.IOException;
import java.lang.reflect.Method;
import java.lang.reflect.Modifier;
import java.net.URI;
import java.nio.file.Files;
import java.nio.file.Path;
import java.util.ArrayList;
import java.util.List;
import javax.tools.JavaCompiler;
import javax.tools.JavaFileObject;
import javax.tools.SimpleJavaFileObject;
import javax.tools.ToolProvider;

/** README.md: its example answers what it says, and it tells of each call of the face. */
public final class ReadmeTest {
    private static final String EXAMPLE = "ReadmeExample";

    private ReadmeTest() {
    }

    public static void main(String[] args) throws IOException, ReflectiveOperationException {
        String readme = Files.readString(Path.of("README.md"));
        theExample(exampleOf(readme));
        eachCallOfTheFace(readme);
        Check.end();
    }

    private static List<String> exampleOf(String readme) {
        String open = "```java\n";
        int start = readme.indexOf(open);
        int end = readme.indexOf("\n```", start + open.length());
        if (start < 0 || end < 0) {
            return List.of();
        }
        return readme.substring(start + open.length(), end).lines().toList();
    }

    private static void theExample(List<String> lines) throws ReflectiveOperationException {
        Check.due("the example has lines", true, lines.size() > 1);
        List<String> calls = new ArrayList<>();
        List<String> answers = new ArrayList<>();
        StringBuilder body = new StringBuilder();
        for (String line : lines) {
            body.append(line).append('\n');
            int comment = line.indexOf("//");
            if (comment >= 0) {
                String name = line.substring(line.indexOf(' ') + 1, line.indexOf(" ="));
                body.append("all.add(String.valueOf(").append(name).append("));\n");
                calls.add(line.substring(0, comment).trim());
                answers.add(line.substring(comment + 2).split(":")[0].trim());
            }
        }
        Check.due("each line but the first has an answer", lines.size() - 1, answers.size());
        Check.due("the example compiles", true, compile(body.toString()));
        Object got = Class.forName(EXAMPLE).getMethod("answers").invoke(null);
        for (int i = 0; i < calls.size(); i++) {
            Check.due("README.md: " + calls.get(i), answers.get(i), ((List<?>) got).get(i).toString());
        }
    }

    /** Goes beside this test's own classes, which .ci/run takes away when it ends. */
    private static boolean compile(String body) {
        String text = "public final class " + EXAMPLE + " { public static java.util.List<String> answers() {\n"
            + "java.util.List<String> all = new java.util.ArrayList<>();\n" + body + "return all; } }\n";
        JavaFileObject source = new SimpleJavaFileObject(URI.create("string:///" + EXAMPLE + ".java"),
            JavaFileObject.Kind.SOURCE) {
            @Override
            public CharSequence getCharContent(boolean ignoreEncodingErrors) {
                return text;
            }
        };
        String classPath = System.getProperty("java.class.path");
        String[] places = classPath.split(File.pathSeparator);
        JavaCompiler compiler = ToolProvider.getSystemJavaCompiler();
        List<String> options = List.of("-cp", classPath, "-d", places[places.length - 1]);
        return compiler.getTask(null, null, null, options, null, List.of(source)).call();
    }

    private static void eachCallOfTheFace(String readme) {
        for (Method method : RopeVotes.class.getDeclaredMethods()) {
            if (Modifier.isPublic(method.getModifiers())) {
                Check.due("README.md tells of " + method.getName(), true, readme.contains("`" + method.getName() + "("));
            }
        }
    }
}
