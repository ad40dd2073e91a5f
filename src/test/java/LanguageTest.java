import java.io.IOException;
import java.lang.reflect.Field;
import java.lang.reflect.Member;
import java.lang.reflect.Method;
import java.lang.reflect.Modifier;
import java.nio.file.Files;
import java.nio.file.Path;
import java.util.ArrayList;
import java.util.List;
import java.util.Set;
import java.util.TreeSet;
import java.util.regex.Matcher;
import java.util.regex.Pattern;

/** The rules of ../shared/LANGUAGE.md that can be read off the class and its file. */
public final class LanguageTest {
    private static final String[] FACE = {
        "int begin()", "int add(int)", "int take()", "boolean setException(int, boolean)",
        "int cutAt(int, boolean)", "int segments()", "int length(int)", "int sourceAt(int, int)",
        "char stateOf(int)", "int hold(int, int)", "int letGo(int, int)", "int write(int, int, int)",
        "int copy(int, int)", "int clear(int, int)", "int mend(int, int)", "int fill(int, int)",
        "int approve(int, int)", "boolean setApart(int, boolean)", "int targetLength(int)",
        "int targetAt(int, int)", "int faults(int)", "int likeness(int, int)", "int entries()",
        "int ageOf(int)", "int valueFor(int, int)", "int bestFor(int)", "int bestAnew(int)",
        "int want(int, int)", "boolean forbid(int, boolean)", "int together()", "int togetherAt(int)",
        "long sum()", "float approvedShare()", "double meanValue()", "boolean isSound()",
    };

    private static final String[] STRANGE_WORDS = {
        "->", "::", "\\btry\\b", "\\bcatch\\b", "\\bfinally\\b", "\\bsynchronized\\b", "\\bassert\\b",
        "\\bstatic\\s*\\{", "\\bwhile\\s*\\(\\s*true", "\"\\s*\\+", "\\+\\s*\"", "\\bSystem\\.(?!arraycopy)",
        "Exact\\(", "\\bObject\\b", "\\bvar\\b", "\\binstanceof\\b", "\\bRandom\\b", "\\bThread\\b",
        "getMessage", "hashCode", "toString\\(\\)\\s*\\{",
    };

    public static void main(String[] args) throws IOException {
        face();
        members();
        classes();
        text();
        Due.close();
    }

    private static void face() {
        Class<?> type = Tongueworks.class;
        Due.is("rule 1, public and final", type.getModifiers(), Modifier.PUBLIC | Modifier.FINAL);
        Due.is("rule 1, one constructor", type.getConstructors().length, 1);
        Due.is("rule 1, no other constructor", type.getDeclaredConstructors().length, 1);
        Set<String> got = new TreeSet<>();
        for (Method method : type.getDeclaredMethods()) {
            if (!Modifier.isPrivate(method.getModifiers())) {
                got.add(told(method));
            }
        }
        Due.is("rule 1, the face", got, new TreeSet<>(List.of(FACE)));
    }

    private static String told(Method method) {
        StringBuilder text = new StringBuilder();
        for (Class<?> parameter : method.getParameterTypes()) {
            text.append(text.length() == 0 ? "" : ", ").append(parameter.getName());
        }
        return method.getReturnType().getName() + " " + method.getName() + "(" + text + ")";
    }

    private static List<Class<?>> all() {
        List<Class<?>> all = new ArrayList<>(List.of(Tongueworks.class.getDeclaredClasses()));
        all.add(Tongueworks.class);
        return all;
    }

    private static void members() {
        for (Field field : Tongueworks.class.getDeclaredFields()) {
            Due.is("rule 1, private " + field.getName(), Modifier.isPrivate(field.getModifiers()), true);
        }
        Set<String> names = new TreeSet<>();
        for (String call : FACE) {
            names.add(call.substring(call.indexOf(' ') + 1, call.indexOf('(')));
        }
        for (Class<?> type : all()) {
            for (Method method : type.getDeclaredMethods()) {
                String who = type.getSimpleName() + "." + method.getName();
                boolean isOfFace = type == Tongueworks.class && Modifier.isPublic(method.getModifiers());
                Due.is("rule 1, a name of the face: " + who, !isOfFace && names.contains(method.getName()), false);
                Due.is("rule 11, parameters of " + who, method.getParameterCount() <= 7, true);
            }
        }
    }

    private static void classes() {
        Due.is("rule 11, classes", all().size() <= 12, true);
        for (Class<?> type : Tongueworks.class.getDeclaredClasses()) {
            Due.is("rule 1, static " + type, Modifier.isStatic(type.getModifiers()), true);
            Due.is("rule 1, not public " + type,
                    type.getModifiers() & (Modifier.PUBLIC | Modifier.PROTECTED), 0);
        }
        for (Class<?> type : all()) {
            int fields = 0;
            for (Field field : type.getDeclaredFields()) {
                boolean isStatic = Modifier.isStatic(field.getModifiers());
                fields += isStatic ? 0 : 1;
                Due.is("rule 5, final " + field, !isStatic || Modifier.isFinal(field.getModifiers()), true);
            }
            Due.is("rule 11, fields of " + type, fields <= 20, true);
        }
    }

    private static void text() throws IOException {
        List<String> lines = Files.readAllLines(Path.of("src/main/java/Tongueworks.java"));
        StringBuilder code = new StringBuilder();
        for (String line : lines) {
            boolean isComment = line.trim().startsWith("//") || line.trim().startsWith("/**");
            code.append(isComment ? "" : line).append('\n');
            if (line.startsWith("import ")) {
                Due.is("rule 4, " + line, line, "import java.util.NoSuchElementException;");
            }
            Due.is("a long line: " + line, line.length() <= 120, true);
        }
        for (String word : STRANGE_WORDS) {
            Matcher matcher = Pattern.compile(word).matcher(code);
            Due.is("a word that the rules leave out: " + word, matcher.find(), false);
        }
        shortMethods(lines);
    }

    /** A method of a class inside ends at the depth of eight blanks, one of the class outside at four. */
    private static void shortMethods(List<String> lines) {
        for (String indent : new String[] {"    ", "        "}) {
            int start = -1;
            for (int i = 0; i < lines.size(); i++) {
                String line = lines.get(i);
                if (line.matches(indent + "[a-zA-Z].*\\).*\\{") && !line.contains(" class ")) {
                    start = i;
                } else if (line.equals(indent + "}") && start >= 0) {
                    Due.is("rule 11, a long method at line " + (start + 1), i - start <= 60, true);
                    start = -1;
                }
            }
        }
    }
}
