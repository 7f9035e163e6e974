import java.io.File;
import java.lang.reflect.Method;
import java.lang.reflect.Modifier;
import java.net.URL;
import java.net.URLClassLoader;
import java.nio.file.Files;
import java.nio.file.Path;
import java.util.ArrayList;
import java.util.List;
import java.util.regex.Matcher;
import java.util.regex.Pattern;
import javax.tools.ToolProvider;

/** README.md: its program compiles and answers what the comments behind its lines say; every call and test is named. */
public final class ReadmeTest extends Check {
    private static final Pattern PROGRAM = Pattern.compile("(?s)```java\n(.*?)```");
    private static final Pattern ANSWER = Pattern.compile("(?m)^(int|boolean) (\\w+) = .*; +// (-?\\d+|true|false)\\b");
    private static final String NAME = "ReadmeProgram";

    public static void main(String[] args) throws Exception {
        String page = Files.readString(Path.of("README.md"));
        Matcher program = PROGRAM.matcher(page);
        due("README.md has a program", program.find(), true);
        tellAnswers(program.group(1));
        for (Method method : HalfLandings.class.getDeclaredMethods()) {
            if (Modifier.isPublic(method.getModifiers())) {
                due("README.md names " + method.getName(), page.contains("`" + method.getName() + "`"), true);
            }
        }
        for (File test : new File("src/test/java").listFiles()) {
            String name = test.getName().replace(".java", "");
            due("README.md names " + name, page.contains("`" + name + "`"), true);
        }
        endWith("");
    }

    private static void tellAnswers(String program) throws Exception {
        List<String> names = new ArrayList<>();
        List<Long> wanted = new ArrayList<>();
        StringBuilder source = new StringBuilder("public final class " + NAME + " { public static long[] answers() {\n" + program + "return new long[] {");
        for (Matcher answer = ANSWER.matcher(program); answer.find();) {
            boolean isTruth = answer.group(1).equals("boolean");
            names.add(answer.group(2));
            wanted.add(isTruth ? answer.group(3).equals("true") ? 1L : 0L : Long.parseLong(answer.group(3)));
            source.append(isTruth ? answer.group(2) + " ? 1 : 0, " : answer.group(2) + ", ");
        }
        long[] got = run(source.append("}; } }\n").toString());
        due("answers of the program", got.length, names.size());
        due("the program has answers", names.size() > 0, true);
        for (int i = 0; i < got.length && i < names.size(); i++) {
            due("README.md: " + names.get(i), got[i], wanted.get(i));
        }
    }

    private static long[] run(String source) throws Exception {
        Path folder = Files.createTempDirectory("readme");
        Path file = folder.resolve(NAME + ".java");
        Path compiled = folder.resolve(NAME + ".class");
        try {
            Files.writeString(file, source);
            int code = ToolProvider.getSystemJavaCompiler().run(null, null, null, "-cp", System.getProperty("java.class.path"),
                "-d", folder.toString(), file.toString());
            due("the program of README.md compiles", code, 0);
            if (code != 0) {
                return new long[0];
            }
            try (URLClassLoader loader = new URLClassLoader(new URL[] {folder.toUri().toURL()})) {
                return (long[]) loader.loadClass(NAME).getMethod("answers").invoke(null);
            }
        } finally {
            Files.deleteIfExists(file);
            Files.deleteIfExists(compiled);
            Files.deleteIfExists(folder);
        }
    }
}
