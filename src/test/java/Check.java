/** What the tests share: due answers, texts typed in, lines read back. */
final class Check {
    private static int wrong = 0;
    private static int right = 0;

    private Check() {
    }

    static void due(String call, long got, long want) {
        if (got == want) {
            right++;
        } else {
            wrong++;
            System.out.println(call + " answered " + got + ", due is " + want);
        }
    }

    static void due(String call, String got, String want) {
        if (got.equals(want)) {
            right++;
        } else {
            wrong++;
            System.out.println(call + " answered " + got + ", due is " + want);
        }
    }

    static void fail(String what) {
        wrong++;
        System.out.println(what);
    }

    /** The refusal is due to be for this reason, with this detail, outside of a text. */
    static void refused(StoryCoroner x, String call, int got, int reason, int detail) {
        refusedIn(x, call, got, reason, detail, StoryCoroner.NOTHING);
    }

    static void refusedIn(StoryCoroner x, String call, int got, int reason, int detail, int command) {
        due(call, got, StoryCoroner.REFUSED);
        due(call + " refusal(0)", x.refusal(0), reason);
        due(call + " refusal(1)", x.refusal(1), detail);
        due(call + " refusal(2)", x.refusal(2), command);
    }

    static StoryCoroner book(int characters, int authors) {
        StoryCoroner x = new StoryCoroner();
        for (int i = 0; i < characters; i++) {
            x.character();
        }
        for (int i = 0; i < authors; i++) {
            x.author();
        }
        return x;
    }

    static void type(StoryCoroner x, String text) {
        for (int i = 0; i < text.length(); i++) {
            x.append(text.charAt(i));
        }
    }

    static int read(StoryCoroner x, String text) {
        type(x, text);
        return x.read();
    }

    /** The line, sign by sign up to the first NONE. */
    static String line(StoryCoroner x) {
        StringBuilder told = new StringBuilder();
        for (int i = 0; x.sign(i) != StoryCoroner.NONE && i < 1000; i++) {
            told.append((char) x.sign(i));
        }
        return told.toString();
    }

    static String order(StoryCoroner x, int kind) {
        StringBuilder told = new StringBuilder();
        for (int place = 0; x.ranked(kind, place) >= 0 && place < 100; place++) {
            told.append(x.ranked(kind, place));
        }
        return told.toString();
    }

    static void close(String name) {
        System.out.println(name + ": " + right + " answers as due, " + wrong + " not");
        if (wrong != 0 || right == 0) {
            System.exit(1);
        }
    }
}
