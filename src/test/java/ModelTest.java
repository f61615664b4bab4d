import java.lang.reflect.InvocationTargetException;
import java.lang.reflect.Method;
import java.util.ArrayList;
import java.util.Arrays;
import java.util.Comparator;
import java.util.List;
import java.util.Random;

/** Promises 1 to 37: long runs of calls, each answered by the class as by the model. */
public final class ModelTest {
    private static final int RUNS = 1600;
    private static final int CALLS = 512;
    private static final int LAST_LOOK = 200;
    private static final int[] EXTREMES = {Integer.MIN_VALUE, Integer.MAX_VALUE, -1, 0x40000000, -0x40000000, 1 << 29};
    private static final String[] CHANGES = {"character", "author", "die", "rise", "strike", "write", "swear", "motive",
        "seat", "leave", "trial"};

    private final Random random;
    private final StoryCoroner x = new StoryCoroner();
    private final Model model = new Model();
    private final List<Method> calls = new ArrayList<>();
    private final List<String> story = new ArrayList<>();
    private boolean isWrong;
    private int made;

    private ModelTest(long seed) {
        random = new Random(seed);
        for (Method call : StoryCoroner.class.getDeclaredMethods()) {
            if ((call.getModifiers() & java.lang.reflect.Modifier.PUBLIC) != 0) {
                calls.add(call);
            }
        }
        calls.sort(Comparator.comparing(Method::getName));
    }

    public static void main(String[] args) throws Exception {
        for (int run = 0; run < RUNS; run++) {
            ModelTest test = new ModelTest(run);
            test.run(run % 4, run / 4 % 5);
            Check.due("run " + run + " is as the model's", test.isWrong ? 1 : 0, 0);
        }
        Check.close("ModelTest");
    }

    /** Kinds of runs: 0 and 1 from an early start, 2 with texts, 3 with any numbers; the rest looks at what stands. */
    private void run(int kind, int angle) throws Exception {
        if (kind != 3) {
            start();
        }
        while (made < CALLS - LAST_LOOK && !isWrong) {
            int dice = random.nextInt(100);
            if (kind == 2 && dice < 25) {
                text();
            } else if (dice < 60) {
                both(named(CHANGES[random.nextInt(CHANGES.length)]), kind == 3);
            } else {
                both(calls.get(random.nextInt(calls.size())), kind == 3);
            }
        }
        look(angle);
    }

    private void start() throws Exception {
        int characters = 2 + random.nextInt(7);
        for (int k = 0; k < characters; k++) {
            both(named("character"), false);
        }
        both(named("author"), false);
        both(named("author"), false);
        for (int k = 0; k < 12; k++) {
            both(named("motive"), false);
        }
    }

    private Method named(String name) {
        for (Method call : calls) {
            if (call.getName().equals(name)) {
                return call;
            }
        }
        throw new IllegalArgumentException(name);
    }

    private void both(Method call, boolean isWild) throws Exception {
        if (Arrays.asList("restore", "undo").contains(call.getName()) && random.nextInt(3) > 0) {
            return;
        }
        Object[] numbers = new Object[call.getParameterCount()];
        for (int k = 0; k < numbers.length; k++) {
            numbers[k] = isWild && random.nextInt(4) == 0 ? EXTREMES[random.nextInt(EXTREMES.length)]
                : number(call.getName(), k);
        }
        compare(call, numbers);
    }

    private void compare(Method call, Object... numbers) throws Exception {
        if (isWrong || made == CALLS) {
            return;
        }
        made++;
        int want = (int) Model.class.getMethod(call.getName(), call.getParameterTypes()).invoke(model, numbers);
        String told = call.getName() + Arrays.toString(numbers);
        try {
            int got = (int) call.invoke(x, numbers);
            story.add(told + " = " + got);
            if (got != want) {
                wrong("the model answers " + want);
            }
        } catch (InvocationTargetException e) {
            story.add(told + " threw " + e.getCause());
            wrong("the model answers " + want);
        }
    }

    private void wrong(String why) {
        isWrong = true;
        int from = Math.max(0, story.size() - 40);
        Check.fail(String.join("\n", story.subList(from, story.size())) + "\n" + why);
    }

    private int number(String name, int index) {
        boolean isRare = random.nextInt(25) == 0;
        switch (name + index) {
            case "die1":
            case "rise1":
            case "write0":
            case "dead0":
            case "deadAgain0":
            case "tellChapter0":
                return isRare ? random.nextInt(40) - 4 : 1 + random.nextInt(30);
            case "deathOf1":
            case "suspect1":
            case "suspectAgain1":
            case "trial2":
            case "guilty2":
            case "would4":
                return isRare ? random.nextInt(6) - 1 : random.nextInt(2);
            case "write1":
            case "swear0":
            case "authorOf0":
                return isRare ? random.nextInt(6) - 1 : random.nextInt(3);
            case "swear1":
            case "darkest0":
                return isRare ? random.nextInt(4) - 1 : random.nextInt(2);
            case "append0":
                return isRare ? random.nextInt(140) - 5 : "cadrxwomjt0123456789;@=+-".charAt(random.nextInt(25));
            case "sign0":
                return random.nextInt(28) - 1;
            case "account0":
                return random.nextInt(13) - 1;
            case "ranked0":
                return random.nextInt(6) - 1;
            default:
                return isRare ? random.nextInt(12) - 1 : random.nextInt(8);
        }
    }

    private void text() throws Exception {
        StringBuilder typed = new StringBuilder();
        int many = 1 + random.nextInt(random.nextInt(12) + 1);
        for (int k = 0; k < many; k++) {
            typed.append(k == 0 ? "" : ";").append(command());
        }
        if (random.nextInt(3) == 0) {
            spoil(typed);
        }
        for (int k = 0; k < typed.length(); k++) {
            compare(named("append"), (int) typed.charAt(k));
        }
        compare(named("read"));
        for (int what = 0; what < 3; what++) {
            compare(named("refusal"), what);
        }
    }

    private void spoil(StringBuilder typed) {
        int at = random.nextInt(typed.length());
        char sign = "cadrxwomjt0123456789;@=+- ~/:".charAt(random.nextInt(29));
        switch (random.nextInt(4)) {
            case 0:
                typed.setLength(at);
                break;
            case 1:
                typed.setCharAt(at, sign);
                break;
            case 2:
                typed.insert(at, sign);
                break;
            default:
                typed.deleteCharAt(at);
                break;
        }
    }

    private String command() {
        String c = "" + random.nextInt(random.nextInt(20) == 0 ? 10 : 4);
        String d = "" + random.nextInt(random.nextInt(20) == 0 ? 10 : 4);
        String chapter = "" + (1 + random.nextInt(random.nextInt(20) == 0 ? 99 : 30));
        switch (random.nextInt(13)) {
            case 0:
                return "c";
            case 1:
                return "a";
            case 2:
                return "d" + c + "@" + chapter;
            case 3:
                return "r" + c + "@" + chapter;
            case 4:
                return "x" + c;
            case 5:
                return "w" + chapter + "@" + random.nextInt(3);
            case 6:
                return "o" + random.nextInt(3) + (random.nextBoolean() ? "+" : "-");
            case 7:
                return "m" + c + d + "=" + random.nextInt(10);
            case 8:
                return "j" + random.nextInt(8) + "=" + random.nextInt(10);
            case 9:
                return "j" + random.nextInt(8) + "-";
            default:
                return "t" + c + d + random.nextInt(2);
        }
    }

    /** An object is used for 512 calls at most, so that each run looks from one angle. */
    private void look(int angle) throws Exception {
        compare(named("isWell"));
        compare(named("share"));
        switch (angle) {
            case 0:
                lookAtCharacters();
                break;
            case 1:
                lookAtJuries();
                break;
            case 2:
                lookAtChapters();
                break;
            case 3:
                lookAtLines();
                break;
            default:
                lookAtSums();
                break;
        }
    }

    private void lookAtCharacters() throws Exception {
        for (int c = -1; c <= 8; c++) {
            for (int what = -1; what <= 7; what++) {
                compare(named("characterOf"), c, what);
            }
            for (int k = 0; k < 8; k++) {
                compare(named("pages"), c, k);
            }
        }
    }

    private void lookAtJuries() throws Exception {
        for (int c = 7; c >= 0; c--) {
            for (int d = 0; d < 2; d++) {
                compare(named("suspect"), c, d);
                compare(named("suspectAgain"), c, d);
                for (int k = 0; k < 4; k++) {
                    int tried = random.nextInt(8);
                    compare(named("guilty"), tried, c, d);
                    compare(named("would"), random.nextInt(7), 1 + random.nextInt(9), tried, c, d);
                }
            }
        }
    }

    private void lookAtChapters() throws Exception {
        for (int chapter = 0; chapter <= 31; chapter++) {
            compare(named("dead"), chapter);
            compare(named("deadAgain"), chapter);
        }
        compare(named("darkest"), 0);
        compare(named("darkest"), 1);
        for (int c = 0; c < 8; c++) {
            for (int d = 0; d < 3; d++) {
                for (int what = 0; what < 5; what++) {
                    compare(named("deathOf"), c, d, what);
                }
            }
        }
    }

    private void lookAtLines() throws Exception {
        line(named("tellJury"));
        for (int k = 0; k < 4; k++) {
            line(named("tellCharacter"), random.nextInt(8));
            line(named("tellChapter"), 1 + random.nextInt(30));
        }
    }

    private void lookAtSums() throws Exception {
        for (int kind = -1; kind <= 11; kind++) {
            compare(named("account"), kind);
            for (int place = -1; place <= 8; place++) {
                compare(named("ranked"), kind, place);
            }
        }
        for (int a = 0; a < 4; a++) {
            for (int what = 0; what < 4; what++) {
                compare(named("authorOf"), a, what);
            }
        }
    }

    private void line(Method call, Object... numbers) throws Exception {
        compare(call, numbers);
        for (int index = 0; index < 28; index++) {
            compare(named("sign"), index);
        }
    }
}
