import java.io.File;
import java.io.IOException;
import java.lang.reflect.InvocationTargetException;
import java.lang.reflect.Method;
import java.lang.reflect.Modifier;
import java.nio.file.Files;
import java.nio.file.Path;
import java.util.HashMap;
import java.util.HashSet;
import java.util.List;
import java.util.Map;
import java.util.Set;
import java.util.regex.Matcher;
import java.util.regex.Pattern;

/** The examples of README.md answer what they say, line by line; all calls and all tests are named there. */
public final class ReadmeTest {
    private static final String MADE = "GrowingUrns x = new GrowingUrns();";
    private static final Pattern LINE =
        Pattern.compile("(?:int (\\w+) = )?x\\.(\\w+)\\(([^)]*)\\); +// (-?\\d+): .+");

    private static final Map<String, Method> CALLS = new HashMap<>();
    private static int answers = 0;
    private static int wrong = 0;

    private static void fail(String what) {
        wrong++;
        System.out.println("README.md: " + what);
    }

    private static void gatherCalls() {
        for (Method method : GrowingUrns.class.getDeclaredMethods()) {
            if (Modifier.isPublic(method.getModifiers())) {
                CALLS.put(method.getName(), method);
            }
        }
    }

    private static Object numberOf(String word, Class<?> type, Map<String, Long> names) {
        long number = names.containsKey(word) ? names.get(word) : Long.parseLong(word);
        if (type == long.class) {
            return number;
        }
        return (int) number;
    }

    private static void ask(GrowingUrns x, Matcher line, Map<String, Long> names)
        throws IllegalAccessException, InvocationTargetException {
        Method call = CALLS.get(line.group(2));
        String[] words = line.group(3).isEmpty() ? new String[0] : line.group(3).split(", ");
        if (call == null || call.getParameterCount() != words.length) {
            fail("there is no such call: " + line.group());
            return;
        }
        Object[] numbers = new Object[words.length];
        for (int i = 0; i < words.length; i++) {
            numbers[i] = numberOf(words[i], call.getParameterTypes()[i], names);
        }
        long got = ((Number) call.invoke(x, numbers)).longValue();
        answers++;
        if (got != Long.parseLong(line.group(4))) {
            fail(line.group() + " answered " + got);
        }
        if (line.group(1) != null) {
            names.put(line.group(1), got);
        }
    }

    private static void examples(List<String> lines) throws IllegalAccessException, InvocationTargetException {
        boolean inside = false;
        GrowingUrns x = null;
        Map<String, Long> names = new HashMap<>();
        for (String line : lines) {
            Matcher parts = LINE.matcher(line);
            if (line.startsWith("```")) {
                inside = line.equals("```java");
                x = null;
            } else if (inside && line.equals(MADE)) {
                x = new GrowingUrns();
                names.clear();
            } else if (inside && x != null && parts.matches()) {
                ask(x, parts, names);
            } else if (inside && !line.isEmpty()) {
                fail("a line that can not be asked: " + line);
            }
        }
    }

    private static void names(String text) {
        Set<String> told = new HashSet<>();
        Matcher row = Pattern.compile("`(\\w+)\\(").matcher(text);
        while (row.find()) {
            told.add(row.group(1));
        }
        for (String call : CALLS.keySet()) {
            if (!told.contains(call)) {
                fail("no word of the call " + call);
            }
        }
        File[] tests = new File("tests").listFiles();
        for (File test : tests == null ? new File[0] : tests) {
            if (test.isFile() && !text.contains("`tests/" + test.getName() + "`")) {
                fail("no word of the test " + test.getName());
            }
        }
        if (tests == null) {
            fail("no tests beside it");
        }
    }

    public static void main(String[] args) throws IOException, IllegalAccessException, InvocationTargetException {
        Path readme = Path.of("README.md");
        gatherCalls();
        examples(Files.readAllLines(readme));
        names(Files.readString(readme));
        if (answers == 0) {
            fail("there is no example");
        }
        System.out.println(wrong == 0 ? answers + " answers of README.md are as told" : wrong + " things are not so");
        if (wrong != 0) {
            System.exit(1);
        }
    }
}
