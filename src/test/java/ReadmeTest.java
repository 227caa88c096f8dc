import java.io.IOException;
import java.lang.reflect.InvocationTargetException;
import java.lang.reflect.Method;
import java.nio.file.Files;
import java.nio.file.Path;
import java.util.ArrayList;
import java.util.List;
import java.util.TreeSet;
import java.util.regex.Matcher;
import java.util.regex.Pattern;

/**
 * Does the runs of calls that README.md gives, as they stand there, and compares the answers that it
 * names behind them. It is run in the directory of README.md.
 */
public final class ReadmeTest {
    private static final String NEW_OBJECT = "DiagramMoves moves = new DiagramMoves();";
    /** A call and, behind it, the answer; what is said about the answer is for readers. */
    private static final Pattern CALL =
            Pattern.compile("moves\\.(\\w+)\\(([^()]*)\\); +// (-?\\d+|true|false)(?:[:, ].*)?");
    private static final int MOST_CALLS = 512;

    private final List<String> lines;
    private final TreeSet<String> called = new TreeSet<>();
    private DiagramMoves moves;
    private int calls;
    private int runs;

    private ReadmeTest(List<String> lines) {
        this.lines = lines;
    }

    public static void main(String[] args) throws IOException {
        ReadmeTest readme = new ReadmeTest(Files.readAllLines(Path.of("README.md")));
        Due.test("README.md, the answers of its runs", readme::doRuns);
        Due.test("README.md, every call is shown", readme::everyCallIsShown);
        Due.test("README.md, how many calls an object is for", readme::tellsHowManyCalls);
        Due.test("README.md, how the tests are run", readme::tellsHowTestsAreRun);
        Due.end();
    }

    private void doRuns() {
        boolean inRun = false;
        for (int i = 0; i < lines.size(); i++) {
            String line = lines.get(i).trim();
            if (line.equals("```java")) {
                inRun = true;
                moves = null;
            } else if (line.startsWith("```")) {
                inRun = false;
            } else if (inRun && !line.isEmpty()) {
                doLine("line " + (i + 1) + ", " + line, line);
            }
        }
        Due.is("the last run has an end", false, inRun);
        Due.is("at least one run", true, runs >= 1);
    }

    private void doLine(String where, String line) {
        if (line.equals(NEW_OBJECT)) {
            moves = new DiagramMoves();
            calls = 0;
            runs++;
            return;
        }
        Matcher call = CALL.matcher(line);
        boolean isCall = moves != null && call.matches();
        Due.is(where + ": a call of an object, with its answer", true, isCall);
        if (isCall) {
            calls++;
            Due.is(where + ": within the calls of one object", true, calls <= MOST_CALLS);
            called.add(call.group(1));
            Due.text(where, call.group(3), answer(call.group(1), call.group(2)));
        }
    }

    private String answer(String name, String arguments) {
        String[] texts = arguments.isBlank() ? new String[0] : arguments.split(", ");
        for (Method method : DiagramMoves.class.getMethods()) {
            if (method.getDeclaringClass() == DiagramMoves.class && method.getName().equals(name)
                    && method.getParameterCount() == texts.length) {
                return answer(method, texts);
            }
        }
        return "no such call";
    }

    private String answer(Method method, String[] texts) {
        List<Object> values = new ArrayList<>();
        for (int i = 0; i < texts.length; i++) {
            if (method.getParameterTypes()[i] == int.class) {
                values.add(Integer.valueOf(texts[i]));
            } else if (texts[i].equals("true") || texts[i].equals("false")) {
                values.add(Boolean.valueOf(texts[i]));
            } else {
                return "no boolean: " + texts[i];
            }
        }
        try {
            return String.valueOf(method.invoke(moves, values.toArray()));
        } catch (IllegalAccessException | InvocationTargetException e) {
            return String.valueOf(e.getCause());
        }
    }

    private void everyCallIsShown() {
        TreeSet<String> names = new TreeSet<>();
        for (Method method : DiagramMoves.class.getMethods()) {
            if (method.getDeclaringClass() == DiagramMoves.class) {
                names.add(method.getName());
            }
        }
        Due.text("the calls of the runs", names.toString(), called.toString());
        for (String name : names) {
            Due.is(name + " has a row in the table", true, hasLine("\\| `" + name + "\\(.*\\)` \\|.*"));
        }
    }

    private void tellsHowManyCalls() {
        Due.is("512 calls", true, hasLine(".*\\b512 calls\\b.*"));
    }

    private void tellsHowTestsAreRun() {
        Due.is(".ci/run", true, hasLine(" *\\.ci/run"));
        Due.is(".ci/run is there", true, Files.isExecutable(Path.of(".ci/run")));
    }

    private boolean hasLine(String pattern) {
        return lines.stream().anyMatch(line -> line.matches(pattern));
    }
}
