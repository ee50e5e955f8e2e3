import java.lang.reflect.Method;
import java.lang.reflect.Modifier;
import java.nio.file.Files;
import java.nio.file.Path;
import java.util.List;
import java.util.regex.Matcher;
import java.util.regex.Pattern;

/** Makes the calls that README.md shows, so that what it says stays true. */
public final class LayerSounderReadme {
    private static final String MADE = "LayerSounder x = new LayerSounder();";
    private static final Pattern CALL = Pattern.compile("x\\.(\\w+)\\(([^)]*)\\);\\s+// (-?\\d+)(:.*)?");
    /** What issue 8 asks README.md to say, by the headings under which it does. */
    private static final List<String> HEADINGS = List.of(
        "## How to use it", "### How one is made", "### What is told ahead of what",
        "### How refusals and FINDINGS are answered", "### For how many calls an object is good",
        "## How to run its tests");
    private static final int FEWEST_CALLS = 30, MOST_CALLS = 512;

    private static int wrong = 0;
    private static int calls = 0;

    private static void tell(String what) {
        wrong++;
        System.out.println(what);
    }

    public static void main(String[] args) throws Exception {
        List<String> lines = Files.readAllLines(Path.of("README.md"));
        for (String heading : HEADINGS) {
            if (!lines.contains(heading)) {
                tell("README.md has no heading '" + heading + "'");
            }
        }
        runExamples(lines);
        namesOfTheFace(String.join("\n", lines));
        tableOfRefusals(lines);
        everyTestIsNamed(String.join("\n", lines));
        System.out.println(wrong == 0 ? "README.md is as the program" : wrong + " things in README.md are not so");
        if (wrong != 0) {
            System.exit(1);
        }
    }

    private static void runExamples(List<String> lines) throws Exception {
        boolean inJava = false;
        LayerSounder x = null;
        for (String line : lines) {
            if (line.startsWith("```")) {
                inJava = line.equals("```java");
            } else if (inJava && line.equals(MADE)) {
                x = new LayerSounder();
            } else if (inJava) {
                makeCall(x, line);
            }
        }
        if (calls < FEWEST_CALLS || calls > MOST_CALLS) {
            tell("README.md shows " + calls + " calls");
        }
    }

    private static void makeCall(LayerSounder x, String line) throws Exception {
        Matcher m = CALL.matcher(line);
        if (x == null || !m.matches()) {
            tell("README.md has a line that is no call with its answer: " + line);
            return;
        }
        calls++;
        String[] numbers = m.group(2).isEmpty() ? new String[0] : m.group(2).split(", ");
        Method method = methodOf(m.group(1), numbers.length);
        if (method == null) {
            tell("there is no such call: " + line);
            return;
        }
        Object[] arguments = new Object[numbers.length];
        for (int i = 0; i < numbers.length; i++) {
            boolean flag = method.getParameterTypes()[i] == boolean.class;
            arguments[i] = flag ? (Object) Boolean.valueOf(numbers[i]) : (Object) Integer.valueOf(numbers[i]);
        }
        long got = ((Number) method.invoke(x, arguments)).longValue();
        if (got != Long.parseLong(m.group(3))) {
            tell("README.md is wrong, " + got + " is answered: " + line);
        }
    }

    private static Method methodOf(String name, int parameters) {
        for (Method m : LayerSounder.class.getDeclaredMethods()) {
            if (Modifier.isPublic(m.getModifiers()) && m.getName().equals(name) && m.getParameterCount() == parameters) {
                return m;
            }
        }
        return null;
    }

    private static void namesOfTheFace(String text) {
        for (Method m : LayerSounder.class.getDeclaredMethods()) {
            if (Modifier.isPublic(m.getModifiers()) && !Pattern.compile("`" + m.getName() + "[`(]").matcher(text).find()) {
                tell("README.md does not name " + m.getName());
            }
        }
    }

    private static void tableOfRefusals(List<String> lines) {
        String[] rows = {
            "| `BAD` | " + LayerSounder.BAD + " |", "| `NOT` | " + LayerSounder.NOT + " |", "| `FULL` | " + LayerSounder.FULL + " |",
            "| FINDING 1 NULL | -11 |", "| FINDING 2 INDEX | -12 |", "| FINDING 3 CAST | -13 |",
            "| FINDING 4 STORE | -14 |", "| FINDING 5 SIZE | -15 |"
        };
        for (String row : rows) {
            if (lines.stream().noneMatch(line -> line.startsWith(row))) {
                tell("README.md has no row " + row);
            }
        }
    }

    private static void everyTestIsNamed(String text) throws Exception {
        try (var files = Files.list(Path.of("src/test/java"))) {
            files.map(f -> f.getFileName().toString().replace(".java", "")).sorted()
                .filter(name -> !text.contains("`" + name + "`"))
                .forEach(name -> tell("README.md does not name the test " + name));
        }
    }
}
