import java.io.IOException;
import java.lang.reflect.Method;
import java.lang.reflect.Modifier;
import java.nio.file.Files;
import java.nio.file.Path;
import java.util.List;
import java.util.regex.Matcher;
import java.util.regex.Pattern;
import java.util.stream.Collectors;
import java.util.stream.Stream;

/** Plays the examples of README.md, and looks whether it names every call and every test. */
public final class ReadmeTest {
    private static final Pattern NEW_OBJECT = Pattern.compile("PulledSignals x = new PulledSignals\\(\\);");
    private static final Pattern FED = Pattern.compile("feed\\(x, \"([^\"]*)\"\\);");
    private static final Pattern CALL = Pattern.compile("x\\.(\\w+)\\(([^)]*)\\); *// (-?\\d+)(:.*)?");

    private static final Due DUE = new Due("ReadmeTest");
    private static PulledSignals x = null;
    private static int played = 0;

    public static void main(String[] args) throws IOException, ReflectiveOperationException {
        String readme = Files.readString(Path.of("README.md"));
        playExamples(readme.split("\n"));
        DUE.says("the examples");
        DUE.is("any was played", played > 0 ? 1 : 0, 1);
        everyCallIsNamed(readme);
        everyTestIsNamed(readme);
        DUE.end();
    }

    private static void playExamples(String[] lines) throws ReflectiveOperationException {
        boolean inExample = false;
        for (String line : lines) {
            if (line.startsWith("```")) {
                inExample = line.equals("```java");
            } else if (inExample) {
                play(line);
            }
        }
    }

    private static void play(String line) throws ReflectiveOperationException {
        DUE.says(line);
        Matcher fed = FED.matcher(line);
        Matcher call = CALL.matcher(line);
        if (NEW_OBJECT.matcher(line).matches()) {
            x = new PulledSignals();
        } else if (fed.matches()) {
            Due.feed(x, fed.group(1));
        } else if (call.matches()) {
            played++;
            DUE.is(call.group(1), answer(call.group(1), call.group(2)), Long.parseLong(call.group(3)));
        } else {
            DUE.text("a line of an example", line, "one that can be played");
        }
    }

    private static long answer(String name, String told) throws ReflectiveOperationException {
        String[] words = told.isEmpty() ? new String[0] : told.split(", ");
        for (Method method : PulledSignals.class.getDeclaredMethods()) {
            if (Modifier.isPublic(method.getModifiers()) && method.getName().equals(name)
                    && method.getParameterCount() == words.length) {
                Object[] inputs = new Object[words.length];
                for (int i = 0; i < inputs.length; i++) {
                    inputs[i] = input(words[i], method.getParameterTypes()[i]);
                }
                return ((Number) method.invoke(x, inputs)).longValue();
            }
        }
        throw new NoSuchMethodException(name);
    }

    private static Object input(String word, Class<?> type) {
        int number = word.equals("PulledSignals.NONE") ? PulledSignals.NONE : Integer.parseInt(word);
        if (type == long.class) {
            return (long) number;
        }
        return number;
    }

    private static void everyCallIsNamed(String readme) {
        DUE.says("the calls by what they are for");
        for (Method method : PulledSignals.class.getDeclaredMethods()) {
            if (Modifier.isPublic(method.getModifiers())) {
                DUE.is(method.getName(), readme.contains("`" + method.getName() + "`") ? 1 : 0, 1);
            }
        }
    }

    private static void everyTestIsNamed(String readme) throws IOException {
        DUE.says("how to run its tests");
        try (Stream<Path> files = Files.list(Path.of("src/test/java"))) {
            List<String> names = files.map(file -> file.getFileName().toString().replace(".java", ""))
                    .collect(Collectors.toList());
            for (String name : names) {
                DUE.is(name, readme.contains("`" + name + "`") ? 1 : 0, 1);
            }
        }
    }
}
