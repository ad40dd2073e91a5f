import java.io.IOException;
import java.lang.reflect.InvocationTargetException;
import java.lang.reflect.Method;
import java.lang.reflect.Modifier;
import java.nio.file.Files;
import java.nio.file.Path;
import java.util.List;
import java.util.regex.Matcher;
import java.util.regex.Pattern;
import java.util.stream.Collectors;
import java.util.stream.Stream;

/** README.md holds for what stands: its calls answer what it says, and it names each call and each test. */
public final class ReadmeTest {
    private static final Pattern CALL = Pattern.compile("bench\\.(\\w+)\\(([^)]*)\\);");
    private static final Pattern ANSWER = Pattern.compile("//\\s*(\\w+)");

    public static void main(String[] args) throws IOException, IllegalAccessException {
        List<String> lines = Files.readAllLines(Path.of("README.md"));
        example(lines);
        namesOfTests(String.join("\n", lines));
        namesOfCalls(String.join("\n", lines));
        Due.close();
    }

    private static void example(List<String> lines) throws IllegalAccessException {
        Tongueworks bench = new Tongueworks();
        boolean isCode = false;
        int answers = 0;
        for (String line : lines) {
            isCode = line.startsWith("```") ? !isCode : isCode;
            if (isCode && line.startsWith("bench.")) {
                String got = lastAnswer(bench, line);
                Matcher due = ANSWER.matcher(line);
                Due.is("README, an answer stands behind " + line, due.find(), true);
                Due.is("README, " + line, got, due.group(1));
                answers++;
            }
        }
        Due.is("README has an example", answers > 20, true);
    }

    private static String lastAnswer(Tongueworks bench, String line) throws IllegalAccessException {
        String answer = "no call";
        Matcher call = CALL.matcher(line);
        while (call.find()) {
            answer = answer(bench, call.group(1), call.group(2));
        }
        return answer;
    }

    private static String answer(Tongueworks bench, String name, String numbers) throws IllegalAccessException {
        String[] parts = numbers.isEmpty() ? new String[0] : numbers.split(", ");
        Object[] arguments = new Object[parts.length];
        for (int i = 0; i < parts.length; i++) {
            arguments[i] = Integer.valueOf(parts[i]);
        }
        for (Method method : Tongueworks.class.getMethods()) {
            if (method.getName().equals(name)) {
                try {
                    return String.valueOf(method.invoke(bench, arguments));
                } catch (InvocationTargetException e) {
                    return e.getCause().getClass().getSimpleName();
                }
            }
        }
        return "no such call";
    }

    private static void namesOfTests(String readme) throws IOException {
        try (Stream<Path> files = Files.list(Path.of("src/test/java"))) {
            for (Path file : files.collect(Collectors.toList())) {
                String name = file.getFileName().toString().replace(".java", "");
                Due.is("README names " + name, readme.contains("`" + name + "`"), true);
            }
        }
    }

    private static void namesOfCalls(String readme) {
        for (Method method : Tongueworks.class.getDeclaredMethods()) {
            String name = method.getName();
            boolean isNamed = readme.contains("bench." + name + "(") || readme.contains("`" + name + "`");
            Due.is("README names " + name, isNamed || !Modifier.isPublic(method.getModifiers()), true);
        }
    }
}
