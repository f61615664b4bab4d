import java.lang.reflect.Method;
import java.lang.reflect.Modifier;
import java.nio.file.Files;
import java.nio.file.Path;
import java.util.ArrayList;
import java.util.List;
import java.util.regex.Matcher;
import java.util.regex.Pattern;

/** README.md names every call and code, and its example and its commands do what it says of them. */
public final class ReadmeTest {
    private static final Pattern EXAMPLE = Pattern.compile("    x\\.(\\w+\\([^)]*\\)); +// (-?\\d+).*");
    private static final Pattern CALL = Pattern.compile("`(\\w+)\\(([\\w, ]*)\\)`");
    private static final Pattern COMMAND = Pattern.compile("\\| `([a-z][^`(]*)` \\| `(\\w+\\([^`]*)` \\|");
    private static final Pattern CODE = Pattern.compile("\\| `([A-Z]+)` \\| (-\\d) \\| .*");

    private static final int CALLS = 36;

    public static void main(String[] args) throws Exception {
        List<String> rows = Files.readAllLines(Path.of("README.md"));
        example(rows);
        everyCall(rows);
        everyCode(rows);
        commands(rows);
        Check.close("ReadmeTest");
    }

    private static void example(List<String> rows) {
        Check.term("README", "the first case");
        StoryCoroner x = new StoryCoroner();
        for (String row : rows) {
            Matcher told = EXAMPLE.matcher(row);
            if (told.matches()) {
                Check.due(x, told.group(1), Integer.parseInt(told.group(2)));
            }
        }
    }

    /** In the tables of calls, a call stands at the beginning of its row. */
    private static void everyCall(List<String> rows) {
        Check.term("README", "every call, with its parameters");
        List<String> named = new ArrayList<>();
        for (String row : rows) {
            Matcher call = CALL.matcher(row.startsWith("| `") ? row.substring(0, row.indexOf(" | ") + 1) : "");
            while (call.find()) {
                named.add(call.group(1) + "/" + (call.group(2).isEmpty() ? 0 : call.group(2).split(",").length));
            }
        }
        for (Method call : StoryCoroner.class.getDeclaredMethods()) {
            if (Modifier.isPublic(call.getModifiers())) {
                String name = call.getName() + "/" + call.getParameterCount();
                Check.due(name + " is named once", named.stream().filter(name::equals).count(), 1);
            }
        }
        Check.due("calls that are named", named.size(), CALLS);
    }

    private static void everyCode(List<String> rows) throws ReflectiveOperationException {
        Check.term("README", "every error code");
        int codes = 0;
        for (String row : rows) {
            Matcher code = CODE.matcher(row);
            if (code.matches()) {
                codes++;
                int number = StoryCoroner.class.getField(code.group(1)).getInt(null);
                Check.due(code.group(1), number, Integer.parseInt(code.group(2)));
            }
        }
        Check.due("the codes that are named", codes, 4);
    }

    private static void commands(List<String> rows) {
        Check.term("README", "each command is the call beside it");
        List<String> texts = new ArrayList<>();
        List<String> calls = new ArrayList<>();
        for (String row : rows) {
            Matcher pair = COMMAND.matcher(row);
            if (pair.matches()) {
                texts.add(pair.group(1));
                calls.add(pair.group(2));
                String byTexts = State.book(() -> byTexts(texts));
                Check.due("the book after " + texts, byTexts, State.book(() -> byCalls(calls)));
            }
        }
        Check.due("the commands that are named", texts.size(), 12);
    }

    private static StoryCoroner start() {
        return Check.book(2, 0, "seat(0, 1)");
    }

    private static StoryCoroner byCalls(List<String> calls) {
        StoryCoroner x = start();
        Check.run(x, String.join(";", calls));
        return x;
    }

    private static StoryCoroner byTexts(List<String> texts) {
        StoryCoroner x = start();
        for (String text : texts) {
            Check.readDue(x, text, 1);
        }
        return x;
    }
}
