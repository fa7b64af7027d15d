import java.io.File;
import java.io.IOException;
import java.lang.reflect.Method;
import java.lang.reflect.Modifier;
import java.nio.file.Files;
import java.nio.file.Path;
import java.util.HashMap;
import java.util.Map;
import java.util.regex.Matcher;
import java.util.regex.Pattern;

/** What README.md tells: its runs answer as it says, and no call and no test is left out. */
public final class ReadmeTest {
    private static final String NEW_OBJECT = "RedTent tent = new RedTent();";
    private static final Pattern BLOCK = Pattern.compile("```java\n(.*?)```", Pattern.DOTALL);
    private static final Pattern LINE = Pattern.compile("(?:int (\\w+) = )?tent\\.(\\w+)\\((.*)\\); *// -> (-?\\w+)(?:: .+)?");

    public static void main(String[] args) throws IOException {
        Check check = new Check("ReadmeTest");
        String readme = Files.readString(Path.of("README.md"));
        Matcher block = BLOCK.matcher(readme);
        while (block.find()) {
            run(check, block.group(1).split("\n"));
        }
        callsAreNamed(check, readme);
        testsAreNamed(check, readme);
        check.finish();
    }

    private static void run(Check check, String[] lines) {
        check.holds("a run begins with " + NEW_OBJECT, lines[0].equals(NEW_OBJECT));
        Asked tent = new Asked();
        Map<String, Long> named = new HashMap<>();
        for (int k = 1; k < lines.length; k++) {
            Matcher line = LINE.matcher(lines[k]);
            check.holds("a line of README.md is a call with its answer: " + lines[k], line.matches());
            if (line.matches()) {
                long answer = tent.ask(line.group(2), numbers(line.group(3), named));
                check.due(lines[k], answer, number(line.group(4), named));
                if (line.group(1) != null) {
                    named.put(line.group(1), answer);
                }
            }
        }
    }

    private static long[] numbers(String told, Map<String, Long> named) {
        if (told.isEmpty()) {
            return new long[0];
        }
        String[] words = told.split(", *");
        long[] all = new long[words.length];
        for (int k = 0; k < words.length; k++) {
            all[k] = number(words[k], named);
        }
        return all;
    }

    /** A number of Java, or a name that an earlier line gave. */
    private static long number(String word, Map<String, Long> named) {
        if (named.containsKey(word)) {
            return named.get(word);
        }
        return Long.decode(word.endsWith("L") ? word.substring(0, word.length() - 1) : word);
    }

    private static void callsAreNamed(Check check, String readme) {
        for (Method m : RedTent.class.getDeclaredMethods()) {
            if (Modifier.isPublic(m.getModifiers())) {
                int takes = m.getParameterCount();
                String given = takes == 0 ? "" : "\\w+(, \\w+){" + (takes - 1) + "}";
                Matcher call = Pattern.compile("`" + m.getName() + "\\(" + given + "\\)`").matcher(readme);
                check.holds("README.md names " + m.getName() + " with " + takes + " numbers", call.find());
            }
        }
    }

    private static void testsAreNamed(Check check, String readme) {
        File[] files = new File("src/test/java").listFiles();
        check.holds("there are tests", files != null && files.length > 0);
        for (File file : files == null ? new File[0] : files) {
            String name = file.getName().replace(".java", "");
            check.holds("README.md names " + name, !name.endsWith("Test") || readme.contains("| " + name + " |"));
        }
    }
}
