import java.lang.reflect.InvocationTargetException;
import java.lang.reflect.Method;
import java.util.ArrayList;
import java.util.Arrays;
import java.util.List;

/**
 * What the tests share. Each check stands under a sentence of the document; the calls are written as
 * text, "die(0, 5)", so that a failing check tells both.
 */
final class Check {
    static final int NONE = StoryCoroner.NONE;
    static final int BAD = StoryCoroner.BAD;
    static final int REFUSED = StoryCoroner.REFUSED;
    static final int NOTHING = StoryCoroner.NOTHING;

    private static final int THREW = -9999;
    private static final boolean[] told = new boolean[38];
    private static String heading = "";
    private static int underHeading = 0;
    private static int wrong = 0;
    private static int right = 0;

    private Check() {
    }

    /** The checks that follow hold this sentence of the promise. */
    static void promise(int number, String sentence) {
        told[number] = true;
        head("promise " + number + ": " + sentence);
    }

    /** The checks that follow hold this sentence of a section of the Terms. */
    static void term(String section, String sentence) {
        head(section + ": " + sentence);
    }

    private static void head(String next) {
        if (!heading.isEmpty() && underHeading == 0) {
            fail("nothing was checked");
        }
        heading = next;
        underHeading = 0;
    }

    static void due(String call, long got, long want) {
        due(call, "" + got, "" + want);
    }

    static void due(String call, String got, String want) {
        underHeading++;
        if (got.equals(want)) {
            right++;
        } else {
            fail(call + " answered " + got + ", due is " + want);
        }
    }

    static void fail(String what) {
        wrong++;
        System.out.println("[" + heading + "] " + what);
    }

    static void due(StoryCoroner x, String call, int want) {
        due(call, ask(x, call), want);
    }

    /** The call is due to be refused for this reason, with this detail, outside of a text. */
    static void refused(StoryCoroner x, String call, int reason, int detail) {
        due(x, call, REFUSED);
        refusal(x, call, reason, detail, NOTHING);
    }

    static void refusal(StoryCoroner x, String call, int reason, int detail, int command) {
        due(call + ", then refusal(0)", x.refusal(0), reason);
        due(call + ", then refusal(1)", x.refusal(1), detail);
        due(call + ", then refusal(2)", x.refusal(2), command);
    }

    /** Every number that stands for an argument beside those from least to greatest, the ends of int too. */
    static int[] outside(int least, int greatest) {
        return new int[] {least - 1, greatest + 1, least - 256, greatest + 256, least + 65536, greatest - 65536,
            Integer.MIN_VALUE, Integer.MIN_VALUE + greatest, Integer.MAX_VALUE, 1 << 28, 1 << 29, 1 << 30, -(1 << 30)};
    }

    /** The call with each number beside those from least to greatest in place of "?". */
    static void outside(StoryCoroner x, String call, int least, int greatest, int want) {
        for (int number : outside(least, greatest)) {
            due(x, call.replace("?", "" + number), want);
        }
    }

    /** The call with each number from 0 on in place of "?", with the answers that are due in their order. */
    static void numbersDue(StoryCoroner x, String call, int... want) {
        for (int what = 0; what < want.length; what++) {
            due(x, call.replace("?", "" + what), want[what]);
        }
    }

    /** Answers the call that is written so. */
    static int ask(StoryCoroner x, String call) {
        int open = call.indexOf('(');
        String inside = call.substring(open + 1, call.lastIndexOf(')')).trim();
        List<Object> numbers = new ArrayList<>();
        for (String number : inside.isEmpty() ? new String[0] : inside.split(" *, *")) {
            numbers.add(Integer.parseInt(number));
        }
        Class<?>[] kinds = new Class<?>[numbers.size()];
        Arrays.fill(kinds, int.class);
        try {
            Method method = StoryCoroner.class.getMethod(call.substring(0, open).trim(), kinds);
            return (int) method.invoke(x, numbers.toArray());
        } catch (InvocationTargetException e) {
            fail(call + " threw " + e.getCause());
            return THREW;
        } catch (ReflectiveOperationException e) {
            throw new IllegalArgumentException(call, e);
        }
    }

    static boolean isError(int answer) {
        return answer == NONE || answer == BAD || answer == REFUSED || answer == THREW;
    }

    /** Makes the calls, written with ";" between them, none of which may answer an error. */
    static void run(StoryCoroner x, String calls) {
        for (String call : calls.isEmpty() ? new String[0] : calls.split(";")) {
            int answer = ask(x, call.trim());
            if (isError(answer)) {
                fail("while it was told, " + call.trim() + " answered " + answer);
            }
        }
    }

    static StoryCoroner book(int characters, int authors, String calls) {
        StoryCoroner x = new StoryCoroner();
        for (int i = 0; i < characters; i++) {
            x.character();
        }
        for (int i = 0; i < authors; i++) {
            x.author();
        }
        run(x, calls);
        return x;
    }

    static StoryCoroner book(int characters, int authors) {
        return book(characters, authors, "");
    }

    static void type(StoryCoroner x, String text) {
        for (int i = 0; i < text.length(); i++) {
            x.append(text.charAt(i));
        }
    }

    static int read(StoryCoroner x, String text) {
        type(x, text);
        return x.read();
    }

    static void readDue(StoryCoroner x, String text, int want) {
        due("read of " + text, read(x, text), want);
    }

    static void readRefused(StoryCoroner x, String text, int reason, int detail, int command) {
        readDue(x, text, REFUSED);
        refusal(x, "read of " + text, reason, detail, command);
    }

    /** The line, sign by sign up to the first NONE. */
    static String line(StoryCoroner x) {
        StringBuilder signs = new StringBuilder();
        for (int i = 0; i < 100 && x.sign(i) != NONE; i++) {
            signs.append((char) x.sign(i));
        }
        return signs.toString();
    }

    static void lineDue(StoryCoroner x, String call, String want) {
        due(x, call, want.length());
        due("the line of " + call, line(x), want);
    }

    static String order(StoryCoroner x, int kind) {
        StringBuilder places = new StringBuilder();
        for (int place = 0; place < 10 && x.ranked(kind, place) >= 0; place++) {
            places.append(x.ranked(kind, place));
        }
        return places.toString();
    }

    static void orderDue(StoryCoroner x, int kind, String want) {
        due("the order of kind " + kind, order(x, kind), want);
    }

    /** Ends the test, which is to hold at least one sentence of each of these promises. */
    static void close(String name, int... promises) {
        for (int number : promises) {
            if (!told[number]) {
                fail("no sentence of promise " + number + " was checked");
            }
        }
        head("");
        System.out.println(name + ": " + right + " answers as due, " + wrong + " not");
        if (wrong != 0 || right == 0) {
            System.exit(1);
        }
    }
}
