import java.io.IOException;
import java.lang.reflect.InvocationTargetException;
import java.net.URL;
import java.net.URLClassLoader;
import java.nio.file.Files;
import java.nio.file.Path;
import java.util.ArrayList;
import java.util.List;
import java.util.regex.Matcher;
import java.util.regex.Pattern;
import javax.tools.ToolProvider;

// README.md keeps its word: its run of calls is compiled and answers what stands behind each call, and each method is named.
public final class ReadmeTest {
    private static final Path FOLDER = Path.of("build", "readme");
    private static final Pattern BLOCK = Pattern.compile("```java\n(.*?)```", Pattern.DOTALL);
    private static final Pattern CALL = Pattern.compile("(int \\w+ = )?(.*);  // (-?\\d+|true|false)\\b.*");

    public static void main(String[] args) throws IOException, ReflectiveOperationException {
        String readme = Files.readString(Path.of("README.md"));
        int calls = run(program(readme));
        Due.is("README.md shows many calls", calls > 50, true);
        for (java.lang.reflect.Method method : PulledCrystal.class.getDeclaredMethods()) {
            if (java.lang.reflect.Modifier.isPublic(method.getModifiers())) {
                String name = method.getName();
                Due.is("shown: " + name, readme.contains("x." + name + "("), true);
                Pattern told = Pattern.compile("\n\\|[^|]*`" + name + "`[^|]*\\|");
                Due.is("what can't be done: " + name, told.matcher(readme).find(), true);
            }
        }
        Due.done("ReadmeTest");
    }

    private static String program(String readme) {
        StringBuilder members = new StringBuilder();
        StringBuilder steps = new StringBuilder();
        Matcher block = BLOCK.matcher(readme);
        while (block.find()) {
            if (block.group(1).startsWith("static ")) {
                members.append(block.group(1));
            } else {
                block.group(1).lines().forEach(line -> steps.append(step(line)));
            }
        }
        String head = "public static void run(java.util.List<String[]> answers) {\n";
        return "public final class Shown {\n" + members + head + steps + "}\n}\n";
    }

    // A call without an answer behind it is a gap of README.md.
    private static String step(String line) {
        Matcher call = CALL.matcher(line);
        if (!call.matches()) {
            Due.is("an answer is told: " + line, line.startsWith("x."), false);
            return line + "\n";
        }
        String name = call.group(1) == null ? "" : call.group(1).substring(4, call.group(1).length() - 3);
        String ahead = name.isEmpty() ? "" : call.group(1) + call.group(2) + ";\n";
        String asked = name.isEmpty() ? call.group(2) : name;
        String told = call.group(2).replace("\"", "'");
        return ahead + "answers.add(new String[] {\"" + told + "\", String.valueOf(" + asked + "), \"" + call.group(3) + "\"});\n";
    }

    private static int run(String program) throws IOException, ReflectiveOperationException {
        Files.createDirectories(FOLDER);
        Path file = FOLDER.resolve("Shown.java");
        Files.writeString(file, program);
        String classes = System.getProperty("java.class.path");
        String[] how = {"-cp", classes, "-d", FOLDER.toString(), file.toString()};
        int failed = ToolProvider.getSystemJavaCompiler().run(null, null, null, how);
        Due.is("README.md compiles", failed, 0);
        if (failed != 0) {
            return 0;
        }
        List<String[]> answers = answers();
        for (String[] answer : answers) {
            Due.is(answer[0] + " is " + answer[1] + ", README.md tells " + answer[2], answer[1].equals(answer[2]), true);
        }
        return answers.size();
    }

    // Of each call what it is, what it answered, and what README.md tells of it.
    private static List<String[]> answers() throws IOException, ReflectiveOperationException {
        List<String[]> answers = new ArrayList<>();
        URL[] places = {FOLDER.toUri().toURL()};
        try (URLClassLoader loader = new URLClassLoader(places, ReadmeTest.class.getClassLoader())) {
            loader.loadClass("Shown").getMethod("run", List.class).invoke(null, answers);
        } catch (InvocationTargetException thrown) {
            Due.is("README.md throws " + thrown.getCause(), true, false);
        }
        return answers;
    }
}
