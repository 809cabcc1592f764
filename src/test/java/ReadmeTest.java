import java.io.IOException;
import java.lang.reflect.Field;
import java.lang.reflect.Method;
import java.lang.reflect.Modifier;
import java.nio.file.Files;
import java.nio.file.Path;
import java.util.HashMap;
import java.util.List;
import java.util.Map;
import java.util.regex.Matcher;
import java.util.regex.Pattern;

/** The examples of README.md, line by line, and that it names every call and every constant. */
public final class ReadmeTest {
    // A call, perhaps kept under a name, and in the comment behind it the answer that it has.
    private static final Pattern CALL = Pattern.compile(
            "(?:int (\\w+) = )?model\\.(\\w+)\\(([^)]*)\\); +// (throws \\w+|-?\\w+)\\b.*");
    private static final String NEW_OBJECT = "ModelMerge model = new ModelMerge();";
    private static final Due due = new Due("ReadmeTest");

    private static final Map<String, Integer> names = new HashMap<>();
    private static ModelMerge model = null;

    public static void main(String[] args) throws IOException, IllegalAccessException {
        Path project = Path.of(System.getProperty("project", "."));
        List<String> lines = Files.readAllLines(project.resolve("README.md"));
        readConstants(lines);
        findCalls(lines);
        playExamples(lines);
        due.end();
    }

    private static void readConstants(List<String> lines) throws IllegalAccessException {
        for (Field constant : ModelMerge.class.getFields()) {
            int value = constant.getInt(null);
            names.put(constant.getName(), value);
            names.put("ModelMerge." + constant.getName(), value);
            found(lines, "| `" + constant.getName() + " = " + value + "` |");
        }
    }

    private static void findCalls(List<String> lines) {
        for (Method method : ModelMerge.class.getDeclaredMethods()) {
            if (Modifier.isPublic(method.getModifiers())) {
                found(lines, "| `" + method.getName() + "(");
            }
        }
    }

    private static void found(List<String> lines, String start) {
        long rows = lines.stream().filter(line -> line.startsWith(start)).count();
        due.compare("rows that start with " + start, "1", Long.toString(rows));
    }

    private static void playExamples(List<String> lines) {
        boolean inside = false;
        int examples = 0;
        for (String line : lines) {
            if (line.startsWith("```")) {
                inside = line.equals("```java");
                examples += inside ? 1 : 0;
            } else if (inside) {
                play(line);
            }
        }
        due.compare("examples", "3", Integer.toString(examples));
    }

    private static void play(String line) {
        Matcher found = CALL.matcher(line);
        if (line.equals(NEW_OBJECT)) {
            model = new ModelMerge();
        } else if (found.matches()) {
            String got = new Call(found.group(2), numbers(found.group(3))).outcome(model);
            due.compare(line, wanted(found.group(4)), got);
            if (found.group(1) != null) {
                names.put(found.group(1), Integer.valueOf(got));
            }
        } else {
            due.compare(line, "a call and its answer", "neither");
        }
    }

    private static String wanted(String told) {
        Integer constant = names.get(told);
        return constant != null ? constant.toString() : told.replace("throws ", "throws.");
    }

    private static int[] numbers(String list) {
        if (list.isEmpty()) {
            return new int[0];
        }
        String[] words = list.split(", ");
        int[] numbers = new int[words.length];
        for (int i = 0; i < words.length; i++) {
            Integer named = names.get(words[i]);
            numbers[i] = named != null ? named : Integer.parseInt(words[i]);
        }
        return numbers;
    }
}
