import java.nio.file.Files;
import java.nio.file.Path;
import java.util.HashMap;
import java.util.List;
import java.util.Map;
import java.util.TreeSet;
import java.util.regex.Matcher;
import java.util.regex.Pattern;

/** README.md's examples, line by line: the number with which a comment begins is what the last call answers. */
final class ReadmeTests {
    private static final Pattern CALL = Pattern.compile("(?:(?:int|long) (\\w+) = )?x\\.(\\w+)\\(([^)]*)\\)");
    private static final Pattern NUMBER = Pattern.compile("(-?\\d+)\\b.*");
    private static final String MADE = "LampsAlongStreets x = new LampsAlongStreets()";

    private final Check check;
    private final Map<String, Integer> named = new HashMap<>();
    private final TreeSet<String> shown = new TreeSet<>();
    private LampsAlongStreets x = null;

    private ReadmeTests(Check check) {
        this.check = check;
    }

    static void run(Check check) throws Exception {
        ReadmeTests tests = new ReadmeTests(check);
        List<String> lines = Files.readAllLines(Path.of("README.md"));
        boolean isJava = false;
        int examples = 0;
        for (String line : lines) {
            if (line.startsWith("```")) {
                isJava = line.equals("```java");
                examples += isJava ? 1 : 0;
            } else if (isJava) {
                tests.line(line);
            }
        }
        check.holds("README.md has its examples", examples >= 6);
        for (String name : FaceTests.names()) {
            // LOTS and SUMS are told by the document alone.
            boolean isTold = name.equals("lots") || name.equals("sums");
            check.holds("README.md shows " + name, isTold || tests.shown.contains(name));
        }
    }

    private void line(String line) {
        int comment = line.indexOf("//");
        String code = comment < 0 ? line : line.substring(0, comment);
        long answer = Long.MIN_VALUE;
        for (String part : code.trim().split(";")) {
            if (!part.isBlank()) {
                answer = statement(part.trim());
            }
        }
        Matcher due = NUMBER.matcher(comment < 0 ? "" : line.substring(comment + 2).trim());
        if (due.matches()) {
            check.due("README.md: " + code.trim(), answer, Long.parseLong(due.group(1)));
        }
    }

    private long statement(String text) {
        if (text.equals(MADE)) {
            x = new LampsAlongStreets();
            named.clear();
            return Long.MIN_VALUE;
        }
        Matcher call = CALL.matcher(text);
        if (!call.matches()) {
            check.holds("README.md: can be read: " + text, false);
            return Long.MIN_VALUE;
        }
        String[] told = call.group(3).isBlank() ? new String[0] : call.group(3).split(",");
        int[] given = new int[told.length];
        for (int i = 0; i < told.length; i++) {
            given[i] = number(told[i].trim());
        }
        shown.add(call.group(2));
        long answer = FaceTests.call(x, call.group(2), given);
        if (call.group(1) != null) {
            named.put(call.group(1), (int) answer);
        }
        return answer;
    }

    private int number(String text) {
        if (text.startsWith("'")) {
            return text.charAt(1);
        }
        return named.containsKey(text) ? named.get(text) : Integer.parseInt(text);
    }
}
