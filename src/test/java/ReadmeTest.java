import java.lang.reflect.Method;
import java.nio.file.Files;
import java.nio.file.Path;
import java.util.ArrayList;
import java.util.List;
import java.util.Set;
import java.util.TreeSet;
import java.util.regex.Matcher;
import java.util.regex.Pattern;
import java.util.stream.Stream;

/** What README.md says must be so: its example's answers, the tests that it names, the command that runs them. */
public final class ReadmeTest {
    private static final Pattern BLOCK = Pattern.compile("(?s)```java\n(.*?)```");
    private static final Pattern CALL = Pattern.compile("x\\.(\\w+)\\((.*)\\); +// (-?\\d+|[A-Z]+)(?:: (.*))?");
    private static final Pattern QUOTED = Pattern.compile("\"([^\"]*)\"");
    private static final Pattern TICKED = Pattern.compile("`([^`]*)`");
    private static final Pattern METHOD = Pattern.compile("(?:(\\w+Test)\\.)?([a-z]\\w*)");

    public static void main(String[] args) throws Exception {
        String readme = Files.readString(Path.of("README.md"));
        Matcher block = BLOCK.matcher(readme);
        Check.due("there is an example", block.find() ? 1 : 0, 1);
        List<String> example = List.of(block.group(1).split("\n"));
        theExample(example);
        aWrongAnswerIsSeen(example);
        theTestsThatThereAre(readme);
        theTestsOfEachBound(readme);
        theCommand(readme);
        Check.finish();
    }

    private static void theExample(List<String> lines) throws Exception {
        Check.same("the example's first line", lines.get(0), "CaveYears x = new CaveYears();");
        for (String row : answersOf(lines)) {
            String[] words = row.split("\t");
            Check.same(words[0] + " of README.md", words[1], words[2]);
        }
        Check.due("calls in the example", lines.size() > 20 ? 1 : 0, 1);
    }

    /** Else a fault in the reading of the example could pass for an example without a fault. */
    private static void aWrongAnswerIsSeen(List<String> lines) throws Exception {
        for (int k = 1; k < lines.size(); k++) {
            List<String> other = new ArrayList<>(lines);
            other.set(k, lines.get(k).replaceFirst("// (-?\\d+|[A-Z]+)", "// 77"));
            String[] words = answersOf(other).get(k - 1).split("\t");
            Check.due("77 behind " + words[0] + " is seen", words[1].equals(words[2]) ? 0 : 1, 1);
        }
    }

    /** A row for each line behind the first one: the call, its answer, the answer that README.md tells. */
    private static List<String> answersOf(List<String> lines) throws Exception {
        CaveYears x = new CaveYears();
        List<String> rows = new ArrayList<>();
        for (String line : lines.subList(1, lines.size())) {
            Matcher m = CALL.matcher(line);
            if (!m.matches()) {
                rows.add(line + "\tis read\tno call with an answer");
                continue;
            }
            String call = m.group(1) + "(" + m.group(2) + ")";
            if (m.group(1).equals("feed")) {
                Check.same(call + " feeds what stands beside it", fedBy(m.group(2)), quotedIn(m.group(4)));
            }
            String told = m.group(3);
            String due = told.matches("[A-Z]+") ? CaveYears.class.getField(told).get(null).toString() : told;
            rows.add(call + "\t" + answer(x, m.group(1), m.group(2)) + "\t" + due);
        }
        return rows;
    }

    private static String quotedIn(String words) {
        Matcher m = QUOTED.matcher(words == null ? "" : words);
        return m.find() ? m.group(1) : "nothing quoted";
    }

    private static String fedBy(String words) throws Exception {
        String[] both = words.split(", ");
        long bytes = (long) value(both[1], long.class);
        StringBuilder s = new StringBuilder();
        for (int k = Integer.parseInt(both[0]) - 1; k >= 0; k--) {
            s.append((char) (bytes >>> 8 * k & 255));
        }
        return s.toString();
    }

    private static Object answer(CaveYears x, String name, String words) throws Exception {
        String[] told = words.isEmpty() ? new String[0] : words.split(", ");
        for (Method m : CaveYears.class.getMethods()) {
            if (m.getName().equals(name) && m.getParameterCount() == told.length) {
                Object[] values = new Object[told.length];
                for (int k = 0; k < told.length; k++) {
                    values[k] = value(told[k], m.getParameterTypes()[k]);
                }
                return m.invoke(x, values);
            }
        }
        return "no call of that name";
    }

    private static Object value(String word, Class<?> type) throws Exception {
        if (type == boolean.class) {
            return Boolean.valueOf(word);
        }
        if (type == long.class) {
            return Long.decode(word.endsWith("L") ? word.substring(0, word.length() - 1) : word);
        }
        return word.startsWith("CaveYears.") ? CaveYears.class.getField(word.substring(10)).get(null) : Integer.decode(word);
    }

    /** A test that README.md names is there, and one that is there is named. */
    private static void theTestsThatThereAre(String readme) throws Exception {
        Set<String> named = new TreeSet<>();
        Matcher m = Pattern.compile("`(\\w+Test)`").matcher(readme);
        while (m.find()) {
            named.add(m.group(1));
        }
        Set<String> there = new TreeSet<>();
        try (Stream<Path> files = Files.list(Path.of("src/test/java"))) {
            for (Path file : files.toList()) {
                String name = file.getFileName().toString();
                if (name.endsWith("Test.java")) {
                    there.add(name.substring(0, name.length() - 5));
                }
            }
        }
        Check.same("the tests that README.md names", named.toString(), there.toString());
    }

    /** In a table's row a method without a class is one of the class that is named ahead of it. */
    private static void theTestsOfEachBound(String readme) throws Exception {
        int methods = 0;
        for (String line : readme.split("\n")) {
            String inClass = "";
            Matcher ticked = TICKED.matcher(line.startsWith("| ") ? line : "");
            while (ticked.find()) {
                Matcher m = METHOD.matcher(ticked.group(1));
                if (m.matches()) {
                    inClass = m.group(1) == null ? inClass : m.group(1);
                    Check.due(inClass + "." + m.group(2) + " is there", has(inClass, m.group(2)) ? 1 : 0, 1);
                    methods++;
                }
            }
        }
        Check.due("the table names tests", methods > 40 ? 1 : 0, 1);
    }

    private static boolean has(String inClass, String method) throws Exception {
        if (inClass.isEmpty()) {
            return false;
        }
        for (Method m : Class.forName(inClass).getDeclaredMethods()) {
            if (m.getName().equals(method)) {
                return true;
            }
        }
        return false;
    }

    /** Whether it runs all tests is told by its own count: it goes over the files, without a list. */
    private static void theCommand(String readme) throws Exception {
        Check.due("README.md names .ci/run", readme.contains("`.ci/run`") ? 1 : 0, 1);
        Check.due(".ci/run may be run", Files.isExecutable(Path.of(".ci/run")) ? 1 : 0, 1);
        String script = Files.readString(Path.of(".ci/run"));
        Check.due("it goes over the project's tests", script.contains("in src/test/java/*Test.java;") ? 1 : 0, 1);
        Check.due("it goes over the shared tests", script.contains("each_shared ../shared/tests\n") ? 1 : 0, 1);
    }
}
