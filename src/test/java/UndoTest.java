/** Promises 35 to 37 and the section "Changes": undo and snapshot. */
public final class UndoTest {
    private static final int NOTHING = Check.NOTHING;

    private static final String[] CHANGES = {"character()", "author()", "die(0, 20)", "rise(1, 20)", "strike(0)",
        "strike(1)", "write(9, 0)", "write(3, 1)", "swear(0, 1)", "motive(1, 0, 3)", "motive(0, 1, 9)", "motive(1, 0, 0)",
        "seat(1, 1)", "leave(0)", "trial(1, 0, 0)"};

    public static void main(String[] args) {
        undoEachChange();
        undoATrialThatSolves();
        undoAStrike();
        undoTheLatestEight();
        undoRoundTheRing();
        undoesNoOtherCalls();
        leavesTextLineReasons();
        save();
        saveAnew();
        restore();
        restoreBringsAllBack();
        callsToTheLast();
        Check.close("UndoTest", 35, 36, 37);
    }

    /** Five changes, so that one more can be undone without one being forgotten. */
    private static StoryCoroner told() {
        StoryCoroner x = Check.book(2, 2);
        Check.readDue(x, "d0@3;r0@6;m10=4;j0=9;w3@0;d1@5", 6);
        return x;
    }

    private static StoryCoroner told(String calls) {
        StoryCoroner x = told();
        Check.run(x, calls);
        return x;
    }

    private static StoryCoroner toldAndRead(String text, String calls) {
        StoryCoroner x = told();
        Check.due("read of " + text, Check.read(x, text) > 0 ? 1 : 0, 1);
        Check.run(x, calls);
        return x;
    }

    private static void undoEachChange() {
        Check.promise(35, "NOTHING if there is none");
        Check.due(new StoryCoroner(), "undo()", NOTHING);
        Check.promise(35, "undoes the latest change; returns the changes that can still be undone");
        String before = State.whole(UndoTest::told);
        for (String change : CHANGES) {
            Check.due(change + " is seen", State.now(() -> told(change)).equals(State.now(UndoTest::told)) ? 1 : 0, 0);
            StoryCoroner x = told(change);
            Check.due(x, "account(10)", 6);
            Check.due(x, "undo()", 5);
            Check.due("undo of " + change, State.whole(() -> told(change + "; undo()")), before);
        }
        for (String text : new String[] {"c", "a", "x0;x0;d0@9", "r1@9;w4@1;o0+", "j0-;j0=1;t100", "m10=0;m01=9"}) {
            StoryCoroner x = toldAndRead(text, "");
            Check.due(x, "account(10)", 6);
            Check.due(x, "undo()", 5);
            Check.due("undo of " + text, State.whole(() -> toldAndRead(text, "undo()")), before);
        }
    }

    private static void undoATrialThatSolves() {
        Check.promise(35, "a trial that solved a death is undone: the verdict and its count");
        StoryCoroner x = Check.book(2, 0, "die(0, 3); motive(1, 0, 4); seat(0, 4); trial(1, 0, 0)");
        Check.due(x, "undo()", 5);
        Check.due(x, "deathOf(0, 0, 1)", NOTHING);
        Check.due(x, "account(4)", 0);
        Check.due(x, "account(6)", 0);
        Check.due(x, "trial(1, 0, 0)", 1);
        Check.due(x, "account(6)", 1);
    }

    private static void undoAStrike() {
        Check.promise(35, "what was struck out is there again, with its verdict, be another in its place");
        StoryCoroner x = Check.book(2, 0, "motive(1, 0, 4); seat(0, 4); die(0, 3); trial(1, 0, 0); strike(0); die(0, 9)");
        Check.due(x, "undo()", 7);
        Check.due(x, "undo()", 6);
        Check.lineDue(x, "tellCharacter(0)", "0:+3=1");
        Check.run(x, "strike(0); die(0, 5); rise(0, 6)");
        Check.due(x, "undo()", 7);
        Check.due(x, "undo()", 6);
        Check.due(x, "undo()", 5);
        Check.lineDue(x, "tellCharacter(0)", "0:+3=1");
    }

    private static void undoTheLatestEight() {
        Check.term("Changes", "at most 8 of them can be undone, the latest first");
        for (int changes = 0; changes <= 12; changes++) {
            StoryCoroner x = new StoryCoroner();
            for (int k = 1; k <= changes; k++) {
                Check.run(x, k % 2 == 1 ? "seat(0, " + (k + 1) / 2 + ")" : "leave(0)");
            }
            int can = Math.min(changes, 8);
            Check.due(x, "account(10)", can);
            for (int left = can - 1; left >= 0; left--) {
                Check.due(x, "undo()", left);
                Check.due(x, "account(10)", left);
                int at = changes - (can - left);
                Check.lineDue(x, "tellJury()", (at % 2 == 0 ? "." : "" + (at + 1) / 2) + "......");
            }
            Check.due(x, "undo()", NOTHING);
            Check.due(x, "undo()", NOTHING);
            Check.due(x, "account(10)", 0);
        }
    }

    private static void undoRoundTheRing() {
        Check.promise(35, "changes after an undo come in place of those undone, however often");
        StoryCoroner x = Check.book(2, 0);
        int[] pages = new int[9];
        int can = 2;
        int now = 0;
        for (int round = 0; round < 40; round++) {
            for (int k = 0; k < round % 7 + 1; k++) {
                System.arraycopy(pages, 1, pages, 0, 8);
                pages[8] = now;
                now = now % 9 + 1;
                Check.run(x, "motive(0, 1, " + now + ")");
                can = Math.min(8, can + 1);
            }
            for (int k = 0; k < round % 5 && can > 2; k++) {
                now = pages[8];
                System.arraycopy(pages, 0, pages, 1, 8);
                can--;
                Check.due(x, "undo()", can);
                Check.due(x, "pages(0, 1)", now);
            }
        }
        Check.due(x, "account(10)", can);
    }

    private static void undoesNoOtherCalls() {
        Check.term("Changes", "the successful calls of these alone: no other call, and none that fails, is undone");
        StoryCoroner x = Check.book(1, 1, "die(0, 4)");
        for (String call : new String[] {"die(0, 40)", "die(3, 4)", "die(0, 5)", "rise(0, 4)", "write(0, 0)", "swear(0, 0)",
            "motive(0, 0, 1)", "seat(7, 1)", "leave(0)", "trial(0, 0, 0)", "append(99)", "tellJury()", "tellCharacter(0)",
            "tellChapter(1)", "save()", "sign(0)", "isWell()", "share()", "refusal(0)", "account(3)", "dead(4)"}) {
            Check.ask(x, call);
            Check.due("account(10) after " + call, x.account(10), 3);
        }
        Check.due("read", Check.read(x, ";x0;x0"), Check.REFUSED);
        Check.readDue(x, "c;", -102);
        Check.readDue(x, "c;d9@1", Check.BAD);
        Check.due(x, "account(10)", 3);
        Check.due(x, "undo()", 2);
        Check.due(x, "account(2)", 0);
        Check.term("Changes", "a chapter that was by none is by an author: that is a change");
        Check.due(x, "write(4, 0)", NOTHING);
        Check.due(x, "account(10)", 3);
        Check.due(x, "undo()", 2);
        Check.due(x, "account(7)", 0);
        Check.term("Changes", "a trial that does not find guilty is a change");
        Check.run(x, "character(); die(0, 1); motive(1, 0, 1); seat(0, 9)");
        Check.due(x, "trial(1, 0, 0)", 0);
        Check.due(x, "account(10)", 7);
        Check.due(x, "undo()", 6);
        Check.due(x, "account(6)", 0);
    }

    private static void leavesTextLineReasons() {
        Check.term("Errors", "the text, the line and the reasons are in neither undo nor snapshot, and stay");
        for (String call : new String[] {"undo()", "restore()"}) {
            StoryCoroner x = Check.book(1, 0, "save(); die(0, 4); tellCharacter(0)");
            Check.refused(x, "die(0, 5)", 3, 1);
            Check.type(x, "c;");
            Check.run(x, call);
            Check.due("line after " + call, Check.line(x), "0:+4");
            Check.due("text after " + call, x.account(9), 2);
            Check.refusal(x, call, 3, 1, NOTHING);
            Check.readDue(x, "c", 2);
            Check.run(x, "save()");
            Check.due("line after save", Check.line(x), "0:+4");
            Check.type(x, "x");
            Check.run(x, "save(); restore()");
            Check.readDue(x, "0", Check.REFUSED);
        }
        Check.term("Errors", "read, which is undone, does not come back to the text");
        StoryCoroner y = new StoryCoroner();
        Check.readDue(y, "c;c", 2);
        Check.run(y, "undo()");
        Check.due(y, "account(9)", 0);
    }

    private static void save() {
        Check.promise(36, "returns the characters");
        StoryCoroner x = new StoryCoroner();
        Check.due(x, "save()", 0);
        for (int many = 1; many <= 8; many++) {
            Check.run(x, "character()");
            Check.due(x, "save()", many);
        }
        Check.promise(36, "saves, and changes nothing else: it is not undone, and what could be undone still can");
        Check.due(x, "account(10)", 8);
        Check.due(x, "undo()", 7);
        Check.due(x, "account(0)", 7);
        Check.promise(36, "an undo leaves the snapshot");
        Check.due(x, "restore()", 8);
    }

    private static void saveAnew() {
        Check.promise(36, "in place of an earlier one");
        StoryCoroner x = Check.book(1, 0, "save(); die(0, 4)");
        Check.due(x, "save()", 1);
        Check.run(x, "strike(0)");
        Check.due(x, "restore()", 1);
        Check.lineDue(x, "tellCharacter(0)", "0:+4");
        Check.run(x, "strike(0); save(); die(0, 9)");
        Check.due(x, "restore()", 1);
        Check.lineDue(x, "tellCharacter(0)", "0:");
        Check.promise(36, "of an empty book it is a snapshot, too");
        StoryCoroner y = new StoryCoroner();
        Check.run(y, "save(); character()");
        Check.due(y, "restore()", 0);
        Check.due(y, "account(0)", 0);
        Check.promise(36, "changes after it do not come into it");
        String later = "c;a;x0;w3@1;o0+;m10=3;m01=2;j1=1;j0-;t100;r0@9";
        String saved = State.book(() -> told("save(); restore()"));
        Check.due("the snapshot", State.book(() -> {
            StoryCoroner z = told("save()");
            Check.readDue(z, later, 11);
            Check.run(z, "restore()");
            return z;
        }), saved);
    }

    private static void restore() {
        Check.promise(37, "NOTHING if there is no snapshot");
        StoryCoroner x = Check.book(2, 1);
        Check.due(x, "restore()", NOTHING);
        Check.due(x, "account(0)", 2);
        Check.due(x, "account(10)", 3);
        Check.promise(37, "returns the characters");
        Check.run(x, "save(); character()");
        Check.due(x, "restore()", 2);
        Check.promise(37, "nothing can be undone then");
        Check.due(x, "account(10)", 0);
        Check.due(x, "undo()", NOTHING);
        Check.due(x, "account(0)", 2);
        Check.promise(37, "the snapshot stays");
        Check.run(x, "character(); author()");
        Check.due(x, "restore()", 2);
        Check.due(x, "restore()", 2);
        Check.due(x, "account(0)", 2);
        Check.due(x, "account(1)", 1);
        Check.promise(37, "changes after it can be undone, 8 of them");
        for (int k = 1; k <= 10; k++) {
            Check.run(x, k % 2 == 1 ? "seat(0, 1)" : "leave(0)");
            Check.due(x, "account(10)", Math.min(k, 8));
        }
        for (int left = 7; left >= 0; left--) {
            Check.due(x, "undo()", left);
        }
        Check.due(x, "undo()", NOTHING);
        Check.promise(37, "restore is not undone, and undo does not go behind it");
        StoryCoroner y = Check.book(1, 0, "save(); die(0, 4); restore(); die(0, 7)");
        Check.due(y, "undo()", 0);
        Check.lineDue(y, "tellCharacter(0)", "0:");
        Check.due(y, "undo()", NOTHING);
    }

    private static void restoreBringsAllBack() {
        Check.term("Errors", "the snapshot contains what changes can change");
        for (String change : CHANGES) {
            String back = State.book(() -> told("save(); " + change + "; restore()"));
            Check.due("restore after " + change, back, State.book(() -> told("save(); restore()")));
            String forth = State.now(() -> told(change + "; save(); undo(); restore()"));
            Check.due("restore of " + change, forth, State.now(() -> told(change + "; save(); restore()")));
            Check.due("restore of " + change + " shows", forth.equals(State.now(() -> told("save(); restore()"))) ? 1 : 0, 0);
        }
        StoryCoroner x = Check.book(2, 0, "die(0, 3); motive(1, 0, 4); seat(0, 4); save(); trial(1, 0, 0); restore()");
        Check.due(x, "account(6)", 0);
        Check.due(x, "account(4)", 0);
        Check.due(x, "trial(1, 0, 0)", 1);
    }

    private static void callsToTheLast() {
        Check.term("What it is", "an object is used for at most 512 calls");
        StoryCoroner x = new StoryCoroner();
        Check.run(x, "author()");
        for (int call = 2; call <= 503; call++) {
            Check.due(x, call % 2 == 0 ? "swear(0, 1)" : "swear(0, 0)", call % 2 == 0 ? 1 : 0);
        }
        for (int left = 7; left >= 0; left--) {
            Check.due(x, "undo()", left);
        }
        Check.due("the call 512", x.authorOf(0, 0), 0);
        StoryCoroner y = new StoryCoroner();
        for (int call = 1; call <= 256; call++) {
            Check.due(y, "append(126)", 1);
            Check.due(y, "read()", -100);
        }
    }
}
