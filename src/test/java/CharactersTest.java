/** Promises 1 to 9: a new object, characters and authors. */
public final class CharactersTest {
    private static final int NONE = Check.NONE;
    private static final int BAD = Check.BAD;
    private static final int NOTHING = Check.NOTHING;

    public static void main(String[] args) {
        newObject();
        character();
        author();
        die();
        dieErrors();
        dieReasons();
        rise();
        riseErrors();
        riseReasons();
        turns();
        strike();
        strikeErrors();
        strikeAndVerdicts();
        write();
        writeErrors();
        swear();
        swearErrors();
        motive();
        motiveErrors();
        Check.close("CharactersTest", 1, 2, 3, 4, 5, 6, 7, 8, 9);
    }

    private static void newObject() {
        StoryCoroner x = new StoryCoroner();
        Check.promise(1, "a book without characters and authors");
        Check.due(x, "account(0)", 0);
        Check.due(x, "account(1)", 0);
        Check.due(x, "characterOf(0, 0)", NONE);
        Check.due(x, "authorOf(0, 0)", NONE);
        Check.due(x, "ranked(0, 0)", NONE);
        Check.due(x, "ranked(3, 0)", NONE);
        Check.promise(1, "nothing has come to it yet");
        for (int what = 2; what <= 10; what++) {
            Check.due(x, "account(" + what + ")", 0);
        }
        Check.due(x, "sign(0)", NONE);
        Check.due(x, "refusal(0)", NOTHING);
        Check.due(x, "share()", NOTHING);
        Check.due(x, "darkest(0)", 1);
        Check.due(x, "darkest(1)", 0);
        Check.due(x, "isWell()", 1);
        Check.due(x, "undo()", NOTHING);
        Check.due(x, "restore()", NOTHING);
        Check.due(x, "read()", -100);
        for (int chapter = 1; chapter <= 30; chapter++) {
            Check.due(x, "dead(" + chapter + ")", 0);
            Check.lineDue(x, "tellChapter(" + chapter + ")", chapter + ":");
        }
        Check.lineDue(x, "tellJury()", ".......");
        Check.promise(1, "each object is a book of its own");
        Check.run(new StoryCoroner(), "character(); author(); seat(0, 1); die(0, 1); append(99); tellJury()");
        Check.due(x, "account(0)", 0);
        Check.due(x, "account(9)", 0);
    }

    private static void character() {
        StoryCoroner x = new StoryCoroner();
        Check.promise(2, "returns the number");
        for (int i = 0; i < 8; i++) {
            Check.due(x, "character()", i);
            Check.due(x, "account(0)", i + 1);
        }
        Check.promise(2, "REFUSED for the reason 1: there are 8 characters: how many");
        Check.refused(x, "character()", 1, 8);
        Check.refused(x, "character()", 1, 8);
        Check.due(x, "account(0)", 8);
        Check.promise(2, "the eighth comes in again when it was undone");
        Check.due(x, "undo()", 7);
        Check.due(x, "character()", 7);
        Check.refused(x, "character()", 1, 8);
        Check.term("The book", "characters live at first");
        for (int i = 0; i < 8; i++) {
            Check.due(x, "characterOf(" + i + ", 2)", 30);
            Check.due(x, "characterOf(" + i + ", 0)", 0);
            Check.due(x, "characterOf(" + i + ", 1)", 0);
        }
        Check.due(x, "dead(30)", 0);
        Check.promise(2, "one who comes in after a restore or an undo is as new");
        StoryCoroner y = Check.book(1, 0, "save(); character(); die(1, 1); motive(1, 0, 3); motive(0, 1, 4); seat(0, 1)");
        Check.run(y, "trial(0, 1, 0); restore(); character()");
        isAsNew(y);
        StoryCoroner z = Check.book(1, 0);
        Check.readDue(z, "c;d1@1;m10=3;m01=4;j0=1;t010", 6);
        Check.run(z, "undo(); character()");
        isAsNew(z);
    }

    private static void isAsNew(StoryCoroner x) {
        Check.lineDue(x, "tellCharacter(1)", "1:");
        Check.numbersDue(x, "characterOf(1, ?)", 0, 0, 30, 0, 0, 0, 0);
        Check.due(x, "die(1, 2)", 1);
        Check.due(x, "deathOf(1, 0, 1)", NOTHING);
    }

    private static void author() {
        StoryCoroner x = new StoryCoroner();
        Check.promise(3, "returns the number");
        for (int i = 0; i < 4; i++) {
            Check.due(x, "author()", i);
            Check.due(x, "account(1)", i + 1);
        }
        Check.promise(3, "REFUSED for the reason 1: there are 4 authors: how many");
        Check.refused(x, "author()", 1, 4);
        Check.refused(x, "author()", 1, 4);
        Check.due(x, "account(1)", 4);
        Check.due(x, "undo()", 3);
        Check.due(x, "author()", 3);
        Check.promise(3, "characters and authors are counted apart");
        Check.due(x, "character()", 0);
        Check.term("The book", "each sworn, or not, as at first; a chapter is, as at first, by none");
        for (int i = 0; i < 4; i++) {
            Check.due(x, "authorOf(" + i + ", 0)", 0);
            Check.due(x, "authorOf(" + i + ", 1)", 0);
        }
        Check.promise(3, "one who comes in after a restore is as new");
        StoryCoroner y = Check.book(0, 1, "save(); author(); swear(1, 1); write(4, 1); restore(); author()");
        Check.due(y, "authorOf(1, 0)", 0);
        Check.due(y, "authorOf(1, 1)", 0);
        Check.due(y, "account(7)", 0);
        Check.due(y, "account(8)", 0);
    }

    private static void die() {
        Check.promise(4, "returns how often the character died then");
        StoryCoroner x = Check.book(3, 0);
        Check.due(x, "die(0, 2)", 1);
        Check.run(x, "rise(0, 4)");
        Check.due(x, "die(0, 6)", 2);
        Check.run(x, "rise(0, 8)");
        Check.due(x, "die(1, 3)", 1);
        Check.due(x, "die(0, 10)", 3);
        Check.due(x, "characterOf(0, 0)", 3);
        Check.due(x, "characterOf(1, 0)", 1);
        Check.due(x, "characterOf(2, 0)", 0);
        Check.promise(4, "the chapters are 1 to 30");
        Check.due(Check.book(1, 0), "die(0, 1)", 1);
        Check.due(Check.book(1, 0), "die(0, 30)", 1);
        Check.promise(4, "characters are 0 to the last one");
        StoryCoroner all = Check.book(8, 0);
        Check.due(all, "die(0, 5)", 1);
        Check.due(all, "die(7, 5)", 1);
        Check.due(all, "dead(5)", 129);
    }

    private static void dieErrors() {
        Check.promise(4, "NONE if there is no such character");
        Check.due(new StoryCoroner(), "die(0, 5)", NONE);
        StoryCoroner x = Check.book(2, 0);
        Check.due(x, "die(2, 5)", NONE);
        Check.due(x, "die(7, 5)", NONE);
        Check.outside(x, "die(?, 5)", 0, 7, NONE);
        Check.outside(Check.book(8, 0), "die(?, 5)", 0, 7, NONE);
        Check.promise(4, "BAD if there is no such chapter");
        Check.outside(x, "die(0, ?)", 1, 30, BAD);
        Check.promise(4, "NONE comes ahead of BAD");
        Check.outside(x, "die(2, ?)", 1, 30, NONE);
        Check.due(x, "die(-1, 31)", NONE);
        Check.promise(4, "BAD comes ahead of REFUSED");
        StoryCoroner dead = Check.book(1, 0, "die(0, 5)");
        Check.outside(dead, "die(0, ?)", 1, 30, BAD);
        StoryCoroner full = full();
        Check.outside(full, "die(0, ?)", 1, 30, BAD);
        Check.due("refusal(0)", full.refusal(0), NOTHING);
    }

    /** Character 0 died and rose six times together, at last in the chapter 12. */
    private static StoryCoroner full() {
        return Check.book(1, 0, "die(0, 2); rise(0, 4); die(0, 6); rise(0, 8); die(0, 10); rise(0, 12)");
    }

    private static void dieReasons() {
        Check.promise(4, "REFUSED for the reason 3, the character is dead: how often the character died");
        StoryCoroner x = Check.book(2, 0, "die(0, 5)");
        Check.refused(x, "die(0, 9)", 3, 1);
        Check.run(x, "rise(0, 10); die(0, 12)");
        Check.refused(x, "die(0, 30)", 3, 2);
        Check.run(x, "rise(0, 14); die(0, 16)");
        Check.refused(x, "die(0, 30)", 3, 3);
        Check.promise(4, "the reason 3 comes ahead of 2");
        Check.refused(x, "die(0, 16)", 3, 3);
        Check.refused(x, "die(0, 1)", 3, 3);
        Check.promise(4, "REFUSED for the reason 2, not a later chapter: the chapter of the last death or rising");
        StoryCoroner y = Check.book(1, 0, "die(0, 5); rise(0, 9)");
        Check.refused(y, "die(0, 8)", 2, 9);
        Check.refused(y, "die(0, 9)", 2, 9);
        Check.refused(y, "die(0, 5)", 2, 9);
        Check.refused(y, "die(0, 1)", 2, 9);
        Check.due(y, "die(0, 10)", 2);
        StoryCoroner last = Check.book(1, 0, "die(0, 29); rise(0, 30)");
        Check.refused(last, "die(0, 30)", 2, 30);
        Check.promise(4, "REFUSED for the reason 1, 6 times together: how many");
        StoryCoroner full = full();
        Check.refused(full, "die(0, 13)", 1, 6);
        Check.refused(full, "die(0, 30)", 1, 6);
        Check.promise(4, "the reason 2 comes ahead of 1");
        Check.refused(full, "die(0, 12)", 2, 12);
        Check.refused(full, "die(0, 1)", 2, 12);
    }

    private static void rise() {
        Check.promise(5, "returns for how many chapters the character was dead");
        Check.due(Check.book(1, 0, "die(0, 1)"), "rise(0, 30)", 29);
        Check.due(Check.book(1, 0, "die(0, 1)"), "rise(0, 2)", 1);
        StoryCoroner x = Check.book(2, 0, "die(0, 3); die(1, 5)");
        Check.due(x, "rise(0, 7)", 4);
        Check.run(x, "die(0, 10)");
        Check.due(x, "rise(0, 12)", 2);
        Check.due(x, "rise(1, 12)", 7);
        Check.promise(5, "the latest chapter to rise in is 30, the earliest 2");
        Check.due(Check.book(1, 0, "die(0, 29)"), "rise(0, 30)", 1);
        Check.refused(Check.book(1, 0, "die(0, 30)"), "rise(0, 30)", 2, 30);
        Check.refused(Check.book(1, 0, "die(0, 1)"), "rise(0, 1)", 2, 1);
    }

    private static void riseErrors() {
        Check.promise(5, "NONE if there is no such character");
        Check.due(new StoryCoroner(), "rise(0, 5)", NONE);
        StoryCoroner x = Check.book(2, 0, "die(0, 2); die(1, 2)");
        Check.due(x, "rise(2, 5)", NONE);
        Check.outside(x, "rise(?, 5)", 0, 7, NONE);
        Check.outside(Check.book(8, 0), "rise(?, 5)", 0, 7, NONE);
        Check.promise(5, "BAD if there is no such chapter");
        Check.outside(x, "rise(0, ?)", 1, 30, BAD);
        Check.promise(5, "NONE comes ahead of BAD");
        Check.outside(x, "rise(2, ?)", 1, 30, NONE);
        Check.promise(5, "BAD comes ahead of REFUSED");
        StoryCoroner lives = Check.book(1, 0);
        Check.outside(lives, "rise(0, ?)", 1, 30, BAD);
        Check.outside(full(), "rise(0, ?)", 1, 30, BAD);
        Check.due("refusal(0)", lives.refusal(0), NOTHING);
    }

    private static void riseReasons() {
        Check.promise(5, "REFUSED for the reason 4, the character lives: how often the character died");
        StoryCoroner x = Check.book(2, 0);
        Check.refused(x, "rise(0, 5)", 4, 0);
        Check.run(x, "die(0, 3); rise(0, 4); die(1, 3)");
        Check.refused(x, "rise(0, 5)", 4, 1);
        Check.run(x, "die(0, 6); rise(0, 8)");
        Check.refused(x, "rise(0, 9)", 4, 2);
        Check.promise(5, "the reason 4 comes ahead of 2");
        Check.refused(x, "rise(0, 8)", 4, 2);
        Check.refused(x, "rise(0, 1)", 4, 2);
        Check.promise(5, "REFUSED for the reason 2, not a later chapter: the chapter of the last death or rising");
        Check.run(x, "die(0, 20)");
        Check.refused(x, "rise(0, 20)", 2, 20);
        Check.refused(x, "rise(0, 19)", 2, 20);
        Check.refused(x, "rise(0, 1)", 2, 20);
        Check.due(x, "rise(0, 21)", 1);
        Check.promise(5, "who died and rose 6 times together lives: the reason 4 comes ahead of 1");
        Check.refused(x, "rise(0, 30)", 4, 3);
        Check.refused(full(), "rise(0, 12)", 4, 3);
    }

    private static void turns() {
        Check.term("Deaths and risings", "both in turns, each in a later chapter, at most 6 for a character");
        StoryCoroner x = Check.book(1, 0);
        for (int i = 0; i < 3; i++) {
            Check.due(x, "die(0, " + (2 * i + 1) + ")", i + 1);
            Check.due(x, "rise(0, " + (2 * i + 2) + ")", 1);
        }
        Check.refused(x, "die(0, 7)", 1, 6);
        Check.due(x, "strike(0)", 6);
        Check.due(x, "rise(0, 30)", 25);
        Check.term("Deaths and risings", "at most 6 for a character, not for all");
        StoryCoroner all = Check.book(8, 0);
        for (int character = 0; character < 8; character++) {
            for (int i = 0; i < 3; i++) {
                Check.due(all, "die(" + character + ", " + (10 * i + 1 + character) + ")", i + 1);
                Check.due(all, "rise(" + character + ", " + (10 * i + 3 + character) + ")", 2);
            }
        }
        Check.due(all, "account(2)", 24);
        Check.due(all, "account(3)", 24);
        for (int character = 0; character < 8; character++) {
            Check.due(all, "characterOf(" + character + ", 2)", 24);
            Check.due(all, "deathOf(" + character + ", 2, 0)", 21 + character);
            Check.due(all, "deathOf(" + character + ", 2, 4)", 23 + character);
        }
    }

    private static void strike() {
        Check.promise(6, "returns its chapter: of the last death or rising");
        StoryCoroner x = Check.book(2, 0, "die(0, 1); rise(0, 2); die(0, 7); rise(0, 9); die(0, 29); rise(0, 30); die(1, 5)");
        for (int chapter : new int[] {30, 29, 9, 7, 2, 1}) {
            Check.due(x, "strike(0)", chapter);
        }
        Check.promise(6, "strikes the last death or rising of a character out");
        Check.due(x, "account(2)", 1);
        Check.due(x, "account(3)", 0);
        Check.due(x, "strike(1)", 5);
        StoryCoroner y = Check.book(1, 0, "die(0, 6); rise(0, 8)");
        Check.due(y, "dead(8)", 0);
        Check.due(y, "strike(0)", 8);
        Check.due(y, "dead(8)", 1);
        Check.due(y, "strike(0)", 6);
        Check.due(y, "dead(8)", 0);
        Check.due(y, "die(0, 2)", 1);
        Check.due(y, "strike(0)", 2);
    }

    private static void strikeErrors() {
        Check.promise(6, "NONE if there is no such character");
        Check.due(new StoryCoroner(), "strike(0)", NONE);
        StoryCoroner x = Check.book(2, 0, "die(0, 3)");
        Check.due(x, "strike(2)", NONE);
        Check.outside(x, "strike(?)", 0, 7, NONE);
        Check.outside(Check.book(8, 0), "strike(?)", 0, 7, NONE);
        Check.promise(6, "REFUSED for the reason 4, if there was none: how often the character died");
        Check.refused(x, "strike(1)", 4, 0);
        Check.run(x, "strike(0)");
        Check.refused(x, "strike(0)", 4, 0);
    }

    private static void strikeAndVerdicts() {
        Check.term("Deaths and risings", "struck out, with the verdict, if it is a death that is solved");
        String solved = "motive(1, 0, 9); seat(0, 1); die(0, 2); rise(0, 4); die(0, 6); rise(0, 8); die(0, 10);"
            + "trial(1, 0, 0); trial(1, 0, 1); trial(1, 0, 2)";
        StoryCoroner x = Check.book(2, 0, solved);
        for (int left = 2; left >= 0; left--) {
            Check.run(x, "strike(0)");
            Check.due(x, "account(4)", left);
            Check.due(x, "characterOf(0, 3)", left);
            Check.due(x, "characterOf(1, 4)", left);
            if (left > 0) {
                Check.run(x, "strike(0)");
            }
        }
        Check.run(x, "die(0, 2); rise(0, 4); die(0, 6); rise(0, 8); die(0, 10)");
        Check.due(x, "account(4)", 0);
        Check.lineDue(x, "tellCharacter(0)", "0:+2^4+6^8+10");
        Check.term("Deaths and risings", "with a rising, no verdict is struck out");
        StoryCoroner y = Check.book(2, 0, solved + "; rise(0, 12); strike(0)");
        Check.lineDue(y, "tellCharacter(0)", "0:+2=1^4+6=1^8+10=1");
        Check.term("Deaths and risings", "the verdicts of other deaths stay");
        StoryCoroner z = Check.book(3, 0, solved + "; motive(0, 2, 1); die(2, 1); trial(0, 2, 0); strike(0)");
        Check.lineDue(z, "tellCharacter(0)", "0:+2=1^4+6=1^8");
        Check.lineDue(z, "tellCharacter(2)", "2:+1=0");
        Check.run(z, "strike(2)");
        Check.due(z, "account(4)", 2);
    }

    private static void write() {
        Check.promise(7, "returns the one before, NOTHING for none");
        StoryCoroner x = Check.book(0, 4);
        Check.due(x, "write(1, 0)", NOTHING);
        Check.due(x, "write(1, 3)", 0);
        Check.due(x, "write(1, 0)", 3);
        Check.due(x, "write(30, 3)", NOTHING);
        Check.due(x, "write(30, 2)", 3);
        Check.promise(7, "tells that a chapter is by an author: by one alone, and that chapter alone");
        Check.due(x, "account(7)", 2);
        int[] chapters = {1, 0, 1, 0};
        for (int author = 0; author < 4; author++) {
            Check.due(x, "authorOf(" + author + ", 1)", chapters[author]);
        }
        Check.promise(7, "the chapters are 1 to 30");
        for (int chapter = 2; chapter <= 29; chapter++) {
            Check.due(x, "write(" + chapter + ", 1)", NOTHING);
        }
        Check.due(x, "account(7)", 30);
        Check.due(x, "authorOf(1, 1)", 28);
    }

    private static void writeErrors() {
        Check.promise(7, "NONE if there is no such author");
        Check.due(new StoryCoroner(), "write(1, 0)", NONE);
        StoryCoroner x = Check.book(8, 2);
        Check.due(x, "write(1, 2)", NONE);
        Check.due(x, "write(1, 3)", NONE);
        Check.due(x, "write(1, -4)", NONE);
        Check.outside(x, "write(1, ?)", 0, 3, NONE);
        Check.outside(Check.book(0, 4), "write(1, ?)", 0, 3, NONE);
        Check.promise(7, "BAD if there is no such chapter");
        Check.outside(x, "write(?, 1)", 1, 30, BAD);
        Check.promise(7, "NONE comes ahead of BAD");
        Check.outside(x, "write(?, 2)", 1, 30, NONE);
        Check.promise(7, "REFUSED for the reason 5, with the author");
        Check.run(x, "write(30, 1); write(1, 0)");
        Check.refused(x, "write(30, 1)", 5, 1);
        Check.refused(x, "write(1, 0)", 5, 0);
        Check.due(x, "write(30, 0)", 1);
        Check.refused(x, "write(30, 0)", 5, 0);
        Check.due(x, "account(7)", 2);
    }

    private static void swear() {
        Check.promise(8, "returns how many authors are sworn then");
        StoryCoroner x = Check.book(0, 4);
        int[] order = {3, 0, 2, 1};
        for (int i = 0; i < 4; i++) {
            Check.due(x, "swear(" + order[i] + ", 1)", i + 1);
        }
        for (int i = 0; i < 4; i++) {
            Check.due(x, "swear(" + order[i] + ", 0)", 3 - i);
            Check.due(x, "authorOf(" + order[i] + ", 0)", 0);
        }
        Check.promise(8, "lets an author be sworn, and that one alone");
        Check.run(x, "swear(1, 1)");
        for (int author = 0; author < 4; author++) {
            Check.due(x, "authorOf(" + author + ", 0)", author == 1 ? 1 : 0);
        }
    }

    private static void swearErrors() {
        Check.promise(8, "NONE if there is no such author");
        Check.due(new StoryCoroner(), "swear(0, 1)", NONE);
        StoryCoroner x = Check.book(8, 3);
        Check.due(x, "swear(3, 1)", NONE);
        Check.outside(x, "swear(?, 1)", 0, 3, NONE);
        Check.outside(Check.book(0, 4), "swear(?, 0)", 0, 3, NONE);
        Check.promise(8, "BAD if isSworn is neither");
        Check.outside(x, "swear(0, ?)", 0, 1, BAD);
        Check.promise(8, "NONE comes ahead of BAD");
        Check.outside(x, "swear(3, ?)", 0, 1, NONE);
        Check.promise(8, "REFUSED for the reason 5: 1 for yes and 0 for no");
        Check.refused(x, "swear(2, 0)", 5, 0);
        Check.run(x, "swear(2, 1)");
        Check.refused(x, "swear(2, 1)", 5, 1);
        Check.refused(x, "swear(1, 0)", 5, 0);
        Check.due(x, "swear(2, 0)", 0);
        Check.refused(x, "swear(2, 0)", 5, 0);
    }

    private static void motive() {
        Check.promise(9, "returns the pages before");
        StoryCoroner x = Check.book(8, 0);
        Check.due(x, "motive(0, 7, 1)", 0);
        Check.due(x, "motive(0, 7, 9)", 1);
        Check.due(x, "motive(0, 7, 0)", 9);
        Check.due(x, "motive(0, 7, 5)", 0);
        Check.promise(9, "of one against another, not the other way round");
        Check.due(x, "pages(0, 7)", 5);
        Check.due(x, "pages(7, 0)", 0);
        Check.due(x, "motive(7, 0, 3)", 0);
        Check.due(x, "pages(0, 7)", 5);
        Check.promise(9, "every pair has pages of its own");
        for (int one = 0; one < 8; one++) {
            for (int other = 0; other < 8; other++) {
                if (one != other && one + other != 7) {
                    Check.due(x, "motive(" + one + ", " + other + ", " + (1 + (3 * one + other) % 9) + ")", 0);
                }
            }
        }
        for (int one = 0; one < 8; one++) {
            for (int other = 0; other < 8; other++) {
                if (one != other && one + other != 7) {
                    Check.due(x, "pages(" + one + ", " + other + ")", 1 + (3 * one + other) % 9);
                }
            }
        }
        Check.due(x, "pages(0, 7)", 5);
    }

    private static void motiveErrors() {
        Check.promise(9, "NONE if there is no such character, for either");
        Check.due(new StoryCoroner(), "motive(0, 0, 1)", NONE);
        StoryCoroner x = Check.book(2, 4);
        Check.due(x, "motive(2, 0, 1)", NONE);
        Check.due(x, "motive(0, 2, 1)", NONE);
        Check.due(x, "motive(2, 2, 1)", NONE);
        Check.outside(x, "motive(?, 0, 1)", 0, 7, NONE);
        Check.outside(x, "motive(0, ?, 1)", 0, 7, NONE);
        Check.outside(Check.book(8, 0), "motive(?, 0, 1)", 0, 7, NONE);
        Check.outside(Check.book(8, 0), "motive(0, ?, 1)", 0, 7, NONE);
        Check.promise(9, "BAD if the pages are out of range");
        Check.outside(x, "motive(0, 1, ?)", 0, 9, BAD);
        Check.promise(9, "NONE comes ahead of BAD");
        Check.due(x, "motive(2, 0, 10)", NONE);
        Check.due(x, "motive(0, -1, -1)", NONE);
        Check.due(x, "motive(2, 2, 10)", NONE);
        Check.promise(9, "BAD comes ahead of REFUSED");
        Check.due(x, "motive(1, 1, 10)", BAD);
        Check.due(x, "motive(0, 0, -1)", BAD);
        Check.promise(9, "REFUSED for the reason 6, both are one: the character");
        Check.refused(x, "motive(1, 1, 9)", 6, 1);
        Check.refused(x, "motive(0, 0, 1)", 6, 0);
        Check.promise(9, "REFUSED for the reason 5, it is so already: the number that was told");
        Check.refused(x, "motive(0, 1, 0)", 5, 0);
        Check.run(x, "motive(0, 1, 1)");
        Check.refused(x, "motive(0, 1, 1)", 5, 1);
        Check.run(x, "motive(0, 1, 9)");
        Check.refused(x, "motive(0, 1, 9)", 5, 9);
        Check.promise(9, "the reason 6 comes ahead of 5");
        Check.refused(x, "motive(1, 1, 0)", 6, 1);
        Check.refused(x, "motive(0, 0, 0)", 6, 0);
        Check.term("In doubt", "a character has no motive against itself");
        Check.due(x, "pages(1, 1)", 0);
        Check.due(x, "characterOf(1, 5)", 0);
    }
}
