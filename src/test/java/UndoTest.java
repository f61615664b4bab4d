/** Promises 35 to 37: undo and snapshot. */
public final class UndoTest {
    public static void main(String[] args) {
        undoEachChange();
        undoAfterAStrike();
        undoTheLatestEight();
        undoCountsSuccessesOnly();
        undoLeavesTextLineReasons();
        save();
        restore();
        restoreLeavesTextLineReasons();
        Check.close("UndoTest");
    }

    private static StoryCoroner told() {
        StoryCoroner x = Check.book(2, 1);
        Check.read(x, "d0@3;r0@6;m10=4;j0=9;w3@0;d1@5");
        return x;
    }

    private static String state(StoryCoroner x) {
        StringBuilder told = new StringBuilder();
        for (int what = 0; what < 9; what++) {
            told.append(x.account(what)).append(' ');
        }
        for (int character = 0; character < x.account(0); character++) {
            x.tellCharacter(character);
            told.append(Check.line(x)).append(' ');
            for (int other = 0; other < x.account(0); other++) {
                told.append(x.pages(character, other));
            }
        }
        for (int chapter = 1; chapter <= 30; chapter++) {
            x.tellChapter(chapter);
            told.append(Check.line(x)).append(' ');
        }
        x.tellJury();
        return told.append(Check.line(x)).toString();
    }

    private static void undoEachChange() {
        Check.due("undo of nothing", new StoryCoroner().undo(), StoryCoroner.NOTHING);
        String[] changes = {"c", "a", "d0@9", "r1@9", "x0", "w3@0;x0", "w4@0", "o0+", "m10=0", "m01=9", "j1=1",
            "j0-", "t100", "j0-;j0=1;t100", "r0@8"};
        for (String change : changes) {
            StoryCoroner x = told();
            String before = state(x);
            int many = x.account(10);
            if (Check.read(x, change) > 0) {
                Check.due("changes after " + change, x.account(10), many + 1);
                Check.due("undo of " + change, x.undo(), many);
            }
            Check.due("state after undo of " + change, state(x), before);
        }
        undoCalls();
    }

    private static void undoCalls() {
        for (int call = 0; call < 11; call++) {
            StoryCoroner x = told();
            String before = state(x);
            int many = x.account(10);
            int answer = change(x, call);
            if (answer == StoryCoroner.NONE || answer == StoryCoroner.BAD || answer == StoryCoroner.REFUSED) {
                Check.fail("change " + call + " answered " + answer);
            }
            Check.due("changes after " + call, x.account(10), many + 1);
            Check.due("change " + call + " shows", state(x).equals(before) ? 1 : 0, 0);
            Check.due("undo of " + call, x.undo(), many);
            Check.due("state after undo of " + call, state(x), before);
        }
    }

    private static int change(StoryCoroner x, int call) {
        switch (call) {
            case 0:
                return x.character();
            case 1:
                return x.author();
            case 2:
                return x.die(0, 20);
            case 3:
                return x.rise(1, 20);
            case 4:
                return x.strike(0);
            case 5:
                return x.write(9, 0);
            case 6:
                return x.swear(0, 1);
            case 7:
                return x.motive(1, 0, 3);
            case 8:
                return x.seat(1, 1);
            case 9:
                return x.leave(0);
            default:
                return x.trial(1, 0, 0);
        }
    }

    /** What was struck out is there again, even if another turn has come in its place. */
    private static void undoAfterAStrike() {
        StoryCoroner x = told();
        String before = state(x);
        x.strike(0);
        x.rise(0, 9);
        x.undo();
        x.undo();
        Check.due("state", state(x), before);
        x.save();
        Check.read(x, "x0;x0;d0@5;r0@7");
        x.restore();
        Check.due("state", state(x), before);
    }

    private static void undoTheLatestEight() {
        StoryCoroner x = Check.book(2, 0);
        for (int pages = 1; pages <= 9; pages++) {
            x.motive(0, 1, pages);
        }
        Check.due("changes", x.account(10), 8);
        for (int left = 7; left >= 5; left--) {
            Check.due("undo", x.undo(), left);
        }
        Check.due("three are undone", x.pages(0, 1), 6);
        x.motive(0, 1, 9);
        Check.due("a change after undo", x.account(10), 6);
        for (int left = 5; left >= 0; left--) {
            Check.due("undo", x.undo(), left);
        }
        Check.due("the oldest stays", x.pages(0, 1), 1);
        Check.due("no more", x.undo(), StoryCoroner.NOTHING);
    }

    private static void undoCountsSuccessesOnly() {
        StoryCoroner x = Check.book(1, 0);
        x.die(0, 40);
        x.die(3, 4);
        x.rise(0, 4);
        Check.read(x, "c;x0");
        Check.read(x, "c;");
        x.append('c');
        x.tellJury();
        x.save();
        Check.due("one change", x.account(10), 1);
        Check.due("undo", x.undo(), 0);
        Check.due("no characters", x.account(0), 0);
        x.author();
        x.character();
        Check.due("one of two", x.undo(), 1);
        Check.due("the other one is there", x.account(1), 1);
        x.author();
        Check.due("one of two", x.undo(), 1);
        Check.due("one author", x.account(1), 1);
    }

    private static void undoLeavesTextLineReasons() {
        StoryCoroner x = Check.book(1, 0);
        x.strike(0);
        x.tellCharacter(0);
        Check.type(x, "c;");
        x.die(0, 4);
        x.undo();
        x.undo();
        Check.due("line", Check.line(x), "0:");
        Check.due("text", x.account(9), 2);
        Check.due("reason", x.refusal(0), 4);
    }

    private static void save() {
        StoryCoroner x = new StoryCoroner();
        Check.due("save of none", x.save(), 0);
        x.character();
        Check.due("restore", x.restore(), 0);
        x.character();
        x.character();
        Check.due("save", x.save(), 2);
        Check.due("save is no change", x.account(10), 2);
        Check.due("undo", x.undo(), 1);
        Check.due("undo leaves the snapshot", x.restore(), 2);
    }

    private static void restore() {
        StoryCoroner x = told();
        String before = state(x);
        x.save();
        Check.read(x, "c;a;x0;w3@0;o0+");
        Check.read(x, "c;a;x0;o0+;m10=3;m01=2;j1=1;j2=1;t100;w5@0");
        Check.due("the change shows", state(x).equals(before) ? 1 : 0, 0);
        Check.due("restore", x.restore(), 2);
        Check.due("state", state(x), before);
        Check.due("nothing can be undone", x.account(10), 0);
        Check.due("nothing can be undone", x.undo(), StoryCoroner.NOTHING);
        x.character();
        Check.due("the snapshot stays", x.restore(), 2);
        Check.due("state", state(x), before);
        Check.due("a change after it", x.character(), 2);
        Check.due("undo after it", x.undo(), 0);
        Check.due("state", state(x), before);
    }

    private static void restoreLeavesTextLineReasons() {
        StoryCoroner x = Check.book(1, 0);
        x.save();
        x.strike(0);
        x.tellCharacter(0);
        Check.type(x, "c;");
        x.restore();
        Check.due("line", Check.line(x), "0:");
        Check.due("text", x.account(9), 2);
        Check.due("reason", x.refusal(0), 4);
    }
}
