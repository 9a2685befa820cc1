import java.lang.reflect.Method;
import java.net.URL;
import java.net.URLClassLoader;
import java.nio.file.Files;
import java.nio.file.Path;
import java.util.ArrayList;
import java.util.Arrays;
import java.util.List;
import java.util.regex.Matcher;
import java.util.regex.Pattern;
import javax.tools.ToolProvider;

/** README.md is there, has an example for each method, whose answers are right, and says how to run the tests. */
final class ReadmeTest {
    private static final Path README = Path.of("README.md");
    private static final Pattern CODE = Pattern.compile("(?s)```java\n(.*?)```");
    private static final Pattern CALL = Pattern.compile("(.*);\\s*// (-?\\d+|NONE|'.')(?!\\w).*");

    public static void main(String[] args) throws Exception {
        Session.due("README.md is there", Files.exists(README), true);
        if (Files.exists(README)) {
            String readme = Files.readString(README);
            List<String> codes = codes(readme);
            Session.due("codes in README.md", codes.size(), 2);
            everyMethodHasAnExample(codes.get(1));
            Session.due("wrong answers", wrongAnswers(codes.get(0), codes.get(1)), "");
            Session.due("how to run the tests", readme.contains("```sh\n.ci/run\n```"), true);
            everyTestIsNamed(readme);
        }
        Session.end();
    }

    private static List<String> codes(String readme) {
        List<String> codes = new ArrayList<>();
        Matcher code = CODE.matcher(readme);
        while (code.find()) {
            codes.add(code.group(1));
        }
        return codes;
    }

    private static void everyMethodHasAnExample(String example) {
        for (Method method : MacroScopes.class.getMethods()) {
            if (method.getDeclaringClass() == MacroScopes.class) {
                String call = "x." + method.getName() + "(";
                Session.due("an example of " + method.getName(),
                    example.lines().anyMatch(line -> line.startsWith(call) && CALL.matcher(line).matches()), true);
            }
        }
    }

    private static void everyTestIsNamed(String readme) throws Exception {
        try (var files = Files.list(Path.of("src/test/java"))) {
            for (Path file : files.toList()) {
                String name = file.getFileName().toString().replace(".java", "");
                Session.due("README.md speaks of " + name, readme.contains("`" + name), true);
            }
        }
    }

    /** Makes a class of the example, in which each answer is compared, and runs it. */
    private static String wrongAnswers(String helper, String example) throws Exception {
        StringBuilder source = new StringBuilder("public final class ReadmeExample {\n"
            + "static final int NONE = MacroScopes.NONE;\n" + helper
            + "public static String run() {\nString wrong = \"\";\nint got = 0;\n");
        for (String line : example.split("\n")) {
            Matcher call = CALL.matcher(line);
            if (call.matches()) {
                String quoted = line.replace("\\", "\\\\").replace("\"", "\\\"");
                source.append("got = ").append(call.group(1)).append(";\nwrong += got == ").append(call.group(2))
                    .append(" ? \"\" : \"answered \" + got + \": ").append(quoted).append("; \";\n");
            } else {
                source.append(line).append("\n");
            }
        }
        source.append("return wrong;\n}\n}\n");
        Path folder = Files.createTempDirectory("readme");
        Path file = Files.writeString(folder.resolve("ReadmeExample.java"), source);
        int failed = ToolProvider.getSystemJavaCompiler().run(null, null, null,
            "-cp", System.getProperty("java.class.path"), "-d", folder.toString(), file.toString());
        if (failed != 0) {
            return "the example is no Java:\n" + source;
        }
        try (URLClassLoader loader = new URLClassLoader(new URL[] {folder.toUri().toURL()})) {
            return (String) loader.loadClass("ReadmeExample").getMethod("run").invoke(null);
        } finally {
            for (String name : Arrays.asList("ReadmeExample.class", "ReadmeExample.java", "")) {
                Files.delete(folder.resolve(name));
            }
        }
    }
}
