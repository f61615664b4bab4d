import java.util.function.Supplier;

/**
 * The section "Errors" of the Terms, for each call of the face: a call that returns an error code leaves
 * the state as it was, all of it: the book, what can be undone, the snapshot, the text, the line.
 */
public final class ErrorsTest {
    private static final String[] before = new String[3];

    private static final String LEAVES = "a call that returns an error code leaves the state unchanged";

    /** Calls that answer NONE or BAD in each of the three books. */
    private static final String[] FAILING = {
        "die(8, 5)", "die(-1, 0)", "die(0, 0)", "die(0, 31)", "rise(8, 5)", "rise(-1, 5)", "rise(0, 0)", "rise(0, 31)",
        "strike(8)", "strike(-1)", "write(1, 4)", "write(0, -1)", "write(0, 0)", "write(31, 0)", "swear(4, 1)",
        "swear(-1, 2)", "swear(0, 2)", "swear(0, -1)", "motive(8, 0, 1)", "motive(0, 8, 1)", "motive(-1, 0, 1)",
        "motive(0, 1, 10)", "motive(0, 1, -1)", "motive(0, 0, 10)", "seat(7, 1)", "seat(-1, 0)", "seat(0, 0)",
        "seat(6, 10)", "leave(7)", "leave(-1)", "trial(8, 0, 0)", "trial(1, 8, 0)", "trial(1, 0, 3)", "trial(1, 0, -1)",
        "trial(0, 0, 3)", "characterOf(8, 0)", "characterOf(0, 7)", "deathOf(8, 0, 0)", "deathOf(0, 3, 0)",
        "deathOf(0, 0, 5)", "authorOf(4, 0)", "authorOf(0, 4)", "pages(8, 0)", "pages(0, 8)", "dead(0)", "dead(31)",
        "deadAgain(0)", "deadAgain(31)", "darkest(2)", "darkest(-1)", "suspect(8, 0)", "suspect(0, 3)",
        "suspectAgain(8, 0)", "suspectAgain(0, 3)", "guilty(8, 0, 0)", "guilty(0, 0, 0)", "guilty(1, 0, 3)",
        "would(7, 1, 1, 0, 0)", "would(0, 0, 1, 0, 0)", "would(0, 1, 0, 0, 0)", "would(0, 1, 1, 0, 3)", "ranked(4, 0)",
        "ranked(0, 8)", "ranked(3, 4)", "tellCharacter(8)", "tellCharacter(-1)", "tellChapter(0)", "tellChapter(31)",
        "sign(-1)", "sign(70)", "append(31)", "append(127)", "refusal(3)", "account(11)",
    };

    /** Calls that are no changes and tell no line, whatever they answer. */
    private static final String[] ASKING = {
        "characterOf(0, 2)", "deathOf(0, 0, 3)", "authorOf(0, 2)", "pages(1, 0)", "dead(30)", "deadAgain(30)",
        "darkest(0)", "darkest(1)", "suspect(0, 0)", "suspectAgain(0, 0)", "guilty(1, 0, 0)", "would(0, 1, 1, 0, 0)",
        "would(6, 9, 1, 0, 0)", "ranked(0, 0)", "ranked(1, 1)", "ranked(2, 0)", "ranked(3, 0)", "sign(0)", "refusal(0)",
        "account(10)", "isWell()", "share()",
    };

    /** Texts of which some command is refused, or bad, or that are wrong, in each of the three books. */
    private static final String[] TEXTS = {
        "c;a;x9", "a;c;d9@5", "m10=1;m01=1;q", "j0-;j0=1;j1=2;j7-", "w1@0;w2@0;w31@0", "o0+;o0-;o0+;o0+;o0=",
        "c;c;c;c;c;c;c;c;c", "a;a;a;a;a", "m11=1", "w9@0;w9@0", "x0;x0;x0;x0;x0;x0;x0", "", ";", "c;", "t999", "d0@99",
    };

    public static void main(String[] args) {
        for (int kind = 0; kind < 3; kind++) {
            failing(kind);
            asking(kind);
            texts(kind);
        }
        refusedWhenFull();
        refusedWhenFew();
        nothing();
        Check.close("ErrorsTest");
    }

    /** 0 a new book, 1 one in which all is full, 2 one in between, in which the text is empty. */
    private static StoryCoroner told(int kind) {
        return kind == 0 ? new StoryCoroner() : kind == 1 ? full() : few();
    }

    /** Eight characters, four authors, six deaths and risings of 0, seven readers, a full text, eight changes. */
    private static StoryCoroner full() {
        StoryCoroner x = Check.book(8, 4, "motive(1, 0, 9); motive(2, 0, 9); motive(0, 3, 4); motive(7, 2, 2)");
        Check.run(x, "die(0, 3); rise(0, 5); die(0, 7); rise(0, 9); die(0, 11); rise(0, 13); die(2, 8); die(3, 30)");
        for (int seat = 0; seat < 7; seat++) {
            Check.run(x, "seat(" + seat + ", " + (seat + 3) + ")");
        }
        Check.run(x, "write(3, 0); write(30, 3); swear(0, 1); trial(1, 0, 0); trial(0, 3, 0); save()");
        Check.run(x, "die(4, 10); rise(4, 20); write(4, 1); swear(3, 1); motive(4, 3, 3); trial(2, 0, 1); die(5, 1)");
        Check.run(x, "motive(6, 5, 6); strike(4); write(3, 2); tellCharacter(0)");
        Check.due("it is refused", x.rise(0, 30), Check.REFUSED);
        Check.type(x, "m10=1;m10=2;m10=3;m10=4;m10=5;m10=6;m10=7;x2;d2@30;w2@1;o1+;d6@3;x6;x5");
        Check.due("the text is full", x.account(9), 70);
        return x;
    }

    /** Three characters, two authors, one reader, some changes undone. */
    private static StoryCoroner few() {
        StoryCoroner x = Check.book(3, 2, "die(0, 4); die(1, 9); motive(1, 0, 5); save(); seat(0, 5); trial(1, 0, 0)");
        Check.run(x, "motive(2, 1, 8); rise(0, 8); write(9, 1); swear(1, 1); undo(); undo(); tellChapter(9)");
        Check.due("it is refused", x.strike(2), Check.REFUSED);
        return x;
    }

    private static String before(int kind) {
        if (before[kind] == null) {
            before[kind] = State.whole(() -> told(kind));
        }
        return before[kind];
    }

    private static Supplier<StoryCoroner> then(int kind, String call) {
        return () -> {
            StoryCoroner x = told(kind);
            Check.ask(x, call);
            return x;
        };
    }

    private static void failing(int kind) {
        Check.term("Errors", LEAVES);
        for (String call : FAILING) {
            int answer = Check.ask(told(kind), call);
            Check.due(call + " answers NONE or BAD", answer == Check.NONE || answer == Check.BAD ? 1 : 0, 1);
            Check.due("state " + kind + " after " + call, State.whole(then(kind, call)), before(kind));
        }
    }

    private static void asking(int kind) {
        Check.term("Not promised", "nothing beyond the answers and state changes described");
        for (String call : ASKING) {
            Check.due("state " + kind + " after " + call, State.whole(then(kind, call)), before(kind));
        }
    }

    /** The text that was there goes, so it is not asked what it would read. */
    private static void texts(int kind) {
        Check.term("Errors", LEAVES + ", except that read empties the text, and that reasons are kept");
        for (String text : TEXTS) {
            Supplier<StoryCoroner> emptied = () -> {
                StoryCoroner x = told(kind);
                x.append('~');
                x.read();
                return x;
            };
            Supplier<StoryCoroner> read = () -> {
                StoryCoroner x = emptied.get();
                int answer = Check.read(x, text);
                Check.due("read of " + text + " is an error", answer < 0 ? 1 : 0, 1);
                return x;
            };
            Check.due("text after read of " + text, read.get().account(9), 0);
            Check.due("line after read of " + text, Check.line(read.get()), Check.line(told(kind)));
            Check.due("book " + kind + " after read of " + text, State.book(read), State.book(emptied));
            Check.due("later " + kind + " after read of " + text, State.later(read), State.later(emptied));
        }
    }

    private static void refusedRow(int kind, String call, int reason, int detail) {
        StoryCoroner x = told(kind);
        Check.refused(x, call, reason, detail);
        Check.due("line after " + call, Check.line(x), Check.line(told(kind)));
        Check.due("text after " + call, x.account(9), told(kind).account(9));
        Check.due("book " + kind + " after " + call, State.book(then(kind, call)), State.book(() -> told(kind)));
        Check.due("later " + kind + " after " + call, State.later(then(kind, call)), State.later(() -> told(kind)));
    }

    private static void refusedWhenFull() {
        Check.term("Errors", LEAVES + ": REFUSED when all is full");
        refusedRow(1, "character()", 1, 8);
        refusedRow(1, "author()", 1, 4);
        refusedRow(1, "die(0, 14)", 1, 6);
        refusedRow(1, "die(0, 13)", 2, 13);
        refusedRow(1, "die(2, 7)", 3, 1);
        refusedRow(1, "rise(0, 14)", 4, 3);
        refusedRow(1, "rise(2, 8)", 2, 8);
        refusedRow(1, "strike(1)", 4, 0);
        refusedRow(1, "write(30, 3)", 5, 3);
        refusedRow(1, "swear(0, 1)", 5, 1);
        refusedRow(1, "swear(1, 0)", 5, 0);
        refusedRow(1, "motive(1, 0, 9)", 5, 9);
        refusedRow(1, "motive(7, 7, 0)", 6, 7);
        refusedRow(1, "seat(6, 1)", 7, 6);
        refusedRow(1, "trial(2, 0, 0)", 8, 1);
        refusedRow(1, "trial(0, 0, 0)", 6, 0);
        refusedRow(1, "trial(3, 0, 2)", 9, 11);
    }

    private static void refusedWhenFew() {
        Check.term("Errors", LEAVES + ": REFUSED otherwise");
        refusedRow(2, "die(0, 8)", 2, 8);
        refusedRow(2, "die(1, 10)", 3, 1);
        refusedRow(2, "rise(0, 9)", 4, 1);
        refusedRow(2, "rise(2, 9)", 4, 0);
        refusedRow(2, "rise(1, 9)", 2, 9);
        refusedRow(2, "strike(2)", 4, 0);
        refusedRow(2, "swear(1, 0)", 5, 0);
        refusedRow(2, "motive(0, 1, 0)", 5, 0);
        refusedRow(2, "motive(2, 2, 8)", 6, 2);
        refusedRow(2, "seat(0, 5)", 7, 0);
        refusedRow(2, "leave(1)", 7, 1);
        refusedRow(2, "trial(1, 0, 0)", 8, 1);
        refusedRow(2, "trial(0, 1, 0)", 9, 9);
        refusedRow(0, "leave(0)", 7, 0);
        StoryCoroner x = few();
        Check.run(x, "leave(0)");
        Check.refused(x, "trial(2, 1, 0)", 10, 1);
        Check.due(x, "account(6)", 1);
        Check.due(x, "undo()", 6);
    }

    private static void nothing() {
        Check.term("Errors", LEAVES + ": NOTHING of undo and restore");
        Check.due("state after undo()", State.whole(then(0, "undo()")), before(0));
        Check.due("state after restore()", State.whole(then(0, "restore()")), before(0));
        Supplier<StoryCoroner> unsaved = () -> Check.book(2, 1, "die(0, 4)");
        Check.due("state after restore()", State.whole(() -> {
            StoryCoroner x = unsaved.get();
            Check.due(x, "restore()", Check.NOTHING);
            return x;
        }), State.whole(unsaved));
        Check.due("state after share()", State.whole(then(0, "share()")), before(0));
    }
}
