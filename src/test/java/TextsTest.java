/** Promises 25 to 29 and 31 to 34: lines, the text, reasons, accounts, shares. */
public final class TextsTest {
    private static final int NONE = Check.NONE;
    private static final int BAD = Check.BAD;
    private static final int NOTHING = Check.NOTHING;

    public static void main(String[] args) {
        tellCharacter();
        tellCharacterErrors();
        tellChapter();
        tellChapterErrors();
        tellJury();
        sign();
        append();
        appendToAFullText();
        refusal();
        refusalOfTheLast();
        account();
        accountAtItsMost();
        accountErrors();
        isWell();
        share();
        everyShare();
        Check.close("TextsTest", 25, 26, 27, 28, 29, 31, 32, 33, 34);
    }

    private static void tellCharacter() {
        Check.promise(25, "the number and \":\"; returns its length");
        StoryCoroner x = Check.book(8, 0, "seat(0, 1)");
        for (int k = 0; k < 8; k++) {
            Check.lineDue(x, "tellCharacter(" + k + ")", k + ":");
        }
        Check.promise(25, "for each death \"+\", for each rising \"^\", with the chapter behind it");
        Check.run(x, "die(2, 5)");
        Check.lineDue(x, "tellCharacter(2)", "2:+5");
        Check.run(x, "rise(2, 9)");
        Check.lineDue(x, "tellCharacter(2)", "2:+5^9");
        Check.run(x, "die(2, 12)");
        Check.lineDue(x, "tellCharacter(2)", "2:+5^9+12");
        Check.promise(25, "behind a death that is solved \"=\" and the culprit");
        Check.run(x, "motive(0, 2, 9); trial(0, 2, 0)");
        Check.lineDue(x, "tellCharacter(2)", "2:+5=0^9+12");
        Check.run(x, "motive(7, 2, 9); trial(7, 2, 1)");
        Check.lineDue(x, "tellCharacter(2)", "2:+5=0^9+12=7");
        Check.promise(25, "chapters of one digit and of two");
        Check.lineDue(Check.book(1, 0, "die(0, 1); rise(0, 9); die(0, 10); rise(0, 11); die(0, 29); rise(0, 30)"),
            "tellCharacter(0)", "0:+1^9+10^11+29^30");
        Check.lineDue(Check.book(1, 0, "die(0, 19); rise(0, 20)"), "tellCharacter(0)", "0:+19^20");
        Check.promise(25, "the longest line");
        StoryCoroner y = Check.book(8, 0, "die(7, 10); rise(7, 11); die(7, 12); rise(7, 13); die(7, 29); rise(7, 30)");
        Check.run(y, "motive(6, 7, 9); seat(0, 1); trial(6, 7, 0); trial(6, 7, 1); trial(6, 7, 2)");
        Check.lineDue(y, "tellCharacter(7)", "7:+10=6^11+12=6^13+29=6^30");
        Check.promise(25, "in place of the line before");
        Check.lineDue(y, "tellCharacter(6)", "6:");
        Check.lineDue(y, "tellCharacter(7)", "7:+10=6^11+12=6^13+29=6^30");
    }

    private static void tellCharacterErrors() {
        Check.promise(25, "NONE if there is no such character, and the line stays");
        Check.due(new StoryCoroner(), "tellCharacter(0)", NONE);
        StoryCoroner x = Check.book(2, 4, "die(1, 4); tellCharacter(1)");
        Check.due(x, "tellCharacter(2)", NONE);
        Check.outside(x, "tellCharacter(?)", 0, 7, NONE);
        Check.due("the line", Check.line(x), "1:+4");
        Check.outside(Check.book(8, 0), "tellCharacter(?)", 0, 7, NONE);
    }

    private static void tellChapter() {
        Check.promise(26, "its number, \":\" and the numbers of those who are dead in it, with \",\" between two");
        StoryCoroner x = Check.book(8, 4, "die(0, 12); die(2, 10); rise(0, 14)");
        Check.lineDue(x, "tellChapter(9)", "9:");
        Check.lineDue(x, "tellChapter(10)", "10:2");
        Check.lineDue(x, "tellChapter(11)", "11:2");
        Check.lineDue(x, "tellChapter(12)", "12:0,2");
        Check.lineDue(x, "tellChapter(13)", "13:0,2");
        Check.lineDue(x, "tellChapter(14)", "14:2");
        Check.promise(26, "\"@\" and its author, if there is one");
        Check.run(x, "write(12, 1); write(1, 0); write(30, 3)");
        Check.lineDue(x, "tellChapter(12)", "12@1:0,2");
        Check.lineDue(x, "tellChapter(1)", "1@0:");
        Check.lineDue(x, "tellChapter(30)", "30@3:2");
        Check.lineDue(x, "tellChapter(13)", "13:0,2");
        Check.promise(26, "\"!\" if that one is sworn");
        Check.run(x, "swear(0, 1); swear(3, 1)");
        Check.lineDue(x, "tellChapter(12)", "12@1:0,2");
        Check.lineDue(x, "tellChapter(1)", "1@0!:");
        Check.lineDue(x, "tellChapter(30)", "30@3!:2");
        Check.lineDue(x, "tellChapter(29)", "29:2");
        Check.run(x, "swear(1, 1); swear(3, 0)");
        Check.lineDue(x, "tellChapter(12)", "12@1!:0,2");
        Check.lineDue(x, "tellChapter(30)", "30@3:2");
        Check.promise(26, "the longest line, with all 8");
        for (int k = 0; k < 8; k++) {
            Check.run(x, k == 2 ? "rise(2, 29); die(2, 30)" : "die(" + k + ", 30)");
        }
        Check.run(x, "swear(3, 1)");
        Check.lineDue(x, "tellChapter(30)", "30@3!:0,1,2,3,4,5,6,7");
        Check.promise(26, "in place of the line before");
        Check.lineDue(x, "tellChapter(2)", "2:");
    }

    private static void tellChapterErrors() {
        Check.promise(26, "BAD if there is no such chapter, and the line stays");
        StoryCoroner x = Check.book(2, 1, "die(1, 30); tellChapter(30)");
        Check.outside(x, "tellChapter(?)", 1, 30, BAD);
        Check.due("the line", Check.line(x), "30:1");
        Check.outside(new StoryCoroner(), "tellChapter(?)", 1, 30, BAD);
        Check.promise(26, "the chapters are 1 to 30, in a book without characters, too");
        for (int chapter = 1; chapter <= 30; chapter++) {
            Check.lineDue(new StoryCoroner(), "tellChapter(" + chapter + ")", chapter + ":");
        }
    }

    private static void tellJury() {
        Check.promise(27, "for each seat from 0 to 6 the severity, or \".\" for an empty one");
        Check.lineDue(new StoryCoroner(), "tellJury()", ".......");
        Check.lineDue(Check.book(0, 0, "seat(0, 5); seat(2, 9); seat(3, 3)"), "tellJury()", "5.93...");
        for (int seat = 0; seat < 7; seat++) {
            String want = ".......".substring(0, seat) + (seat + 1) + ".......".substring(seat + 1);
            Check.lineDue(Check.book(0, 0, "seat(" + seat + ", " + (seat + 1) + ")"), "tellJury()", want);
        }
        StoryCoroner x = new StoryCoroner();
        for (int seat = 0; seat < 7; seat++) {
            Check.run(x, "seat(" + seat + ", " + (9 - seat) + ")");
        }
        Check.lineDue(x, "tellJury()", "9876543");
        Check.promise(27, "in place of the line before, which stays until then");
        Check.run(x, "leave(0); leave(6)");
        Check.due("the line", Check.line(x), "9876543");
        Check.lineDue(x, "tellJury()", ".87654.");
    }

    private static void sign() {
        Check.promise(28, "the line is empty at first: NONE");
        StoryCoroner x = Check.book(1, 0);
        Check.due(x, "sign(0)", NONE);
        Check.due(x, "sign(-1)", NONE);
        Check.promise(28, "returns its code, the index from 0");
        Check.run(x, "seat(0, 4); seat(6, 7); tellJury()");
        Check.due(x, "sign(0)", '4');
        Check.due(x, "sign(1)", '.');
        Check.due(x, "sign(6)", '7');
        Check.promise(28, "NONE if there is no such index");
        Check.due(x, "sign(7)", NONE);
        Check.outside(x, "sign(?)", 0, 69, NONE);
        Check.promise(28, "no index is left of a longer line before");
        Check.run(x, "tellCharacter(0)");
        Check.due(x, "sign(0)", '0');
        Check.due(x, "sign(1)", ':');
        Check.due(x, "sign(2)", NONE);
        Check.due(x, "sign(6)", NONE);
    }

    private static void append() {
        Check.promise(29, "the code of the character, 32 to 126; returns the length of the text");
        StoryCoroner x = new StoryCoroner();
        Check.due(x, "append(32)", 1);
        Check.due(x, "append(126)", 2);
        for (int from = 32; from <= 126; from += 60) {
            StoryCoroner y = new StoryCoroner();
            for (int code = from; code < from + 60 && code <= 126; code++) {
                Check.due(y, "append(" + code + ")", code - from + 1);
            }
        }
        Check.promise(29, "BAD if the code is out of range, and nothing is appended");
        Check.outside(x, "append(?)", 32, 126, BAD);
        Check.outside(x, "append(?)", 32, 126, BAD);
        Check.due(x, "append(10)", BAD);
        Check.due(x, "append(0)", BAD);
        Check.due(x, "account(9)", 2);
        Check.due(x, "append(99)", 3);
        Check.promise(29, "appends at the end");
        Check.readDue(Check.book(0, 0, "append(99); append(59)"), "c", 2);
        Check.promise(29, "the text is empty after read, be it right or wrong");
        Check.due(x, "read()", -100);
        Check.due(x, "append(99)", 1);
        Check.due(x, "read()", 1);
        Check.due(x, "append(99)", 1);
    }

    private static void appendToAFullText() {
        Check.promise(29, "BAD if the text has 70 characters");
        StoryCoroner x = new StoryCoroner();
        Check.type(x, "c;a;".repeat(17));
        Check.due(x, "append(99)", 69);
        Check.due(x, "append(32)", 70);
        Check.due(x, "append(99)", BAD);
        Check.due(x, "append(31)", BAD);
        Check.due(x, "append(127)", BAD);
        Check.due(x, "account(9)", 70);
        Check.promise(29, "what is appended to a full text does not come in");
        Check.due(x, "read()", -169);
        Check.due(x, "account(9)", 0);
        Check.promise(29, "each of the 70 characters counts");
        for (int at = 0; at < 70; at++) {
            StoryCoroner y = new StoryCoroner();
            Check.type(y, "c;".repeat(35).substring(0, at) + "~" + "c;".repeat(35).substring(at + 1));
            Check.due("read with a fault at " + at, y.read(), -100 - at);
        }
    }

    private static void refusal() {
        Check.promise(31, "NOTHING if nothing was refused");
        StoryCoroner x = Check.book(1, 1);
        for (int what = 0; what <= 2; what++) {
            Check.due(x, "refusal(" + what + ")", NOTHING);
        }
        Check.promise(31, "BAD if there is no such what, and ahead of NOTHING");
        Check.outside(x, "refusal(?)", 0, 2, BAD);
        Check.promise(31, "an error for no reason is no refusal");
        Check.due(x, "die(0, 40)", BAD);
        Check.due(x, "die(9, 4)", NONE);
        Check.readDue(x, "d0@40", BAD);
        Check.readDue(x, "d9@4", BAD);
        Check.readDue(x, "c;", -102);
        Check.due(x, "undo()", 1);
        Check.due(x, "author()", 0);
        Check.due(x, "restore()", NOTHING);
        Check.due(x, "share()", NOTHING);
        Check.due(x, "refusal(0)", NOTHING);
        Check.promise(31, "0 the reason, 1 its detail, 2 NOTHING for another call than read");
        Check.due(x, "rise(0, 5)", Check.REFUSED);
        Check.due(x, "refusal(0)", 4);
        Check.due(x, "refusal(1)", 0);
        Check.due(x, "refusal(2)", NOTHING);
        Check.outside(x, "refusal(?)", 0, 2, BAD);
        Check.promise(31, "2 the number of the command in its text, from 0");
        Check.readRefused(x, "x0", 4, 0, 0);
        Check.readRefused(x, "c;x1", 4, 0, 1);
        Check.readRefused(x, "c;c;c;c;c;c;c;c;c", 1, 8, 7);
        Check.readRefused(x, "c;c;c;c;c;c;c;a;a;a;a;w1@0;w2@0;w3@0;w4@0;w5@0;x0", 1, 4, 10);
        Check.readRefused(x, "c;c;c;c;c;c;c;a;a;a;w1@0;w2@0;w3@0;w4@0;w5@0;x0", 4, 0, 15);
        Check.readRefused(x, "o0+;o0-;".repeat(8) + "x0", 4, 0, 16);
    }

    private static void refusalOfTheLast() {
        Check.promise(31, "about what was refused last");
        StoryCoroner x = Check.book(2, 1);
        Check.refused(x, "rise(0, 5)", 4, 0);
        Check.refused(x, "motive(1, 1, 3)", 6, 1);
        Check.readRefused(x, "m01=4;m01=4", 5, 4, 1);
        Check.refused(x, "leave(6)", 7, 6);
        Check.promise(31, "it stays with what succeeds, fails for no reason, is undone or restored");
        for (String call : new String[] {"seat(0, 1)", "die(0, 40)", "die(9, 1)", "tellJury()", "append(113)", "append(7)",
            "undo()", "save()", "restore()", "undo()", "isWell()", "refusal(3)", "sign(99)"}) {
            Check.ask(x, call);
            Check.refusal(x, call, 7, 6, NOTHING);
        }
        Check.readDue(x, "c", -100);
        Check.refusal(x, "a wrong text", 7, 6, NOTHING);
        Check.readDue(x, "c", 1);
        Check.refusal(x, "a text", 7, 6, NOTHING);
        Check.readRefused(x, "a;j6-", 7, 6, 1);
        Check.readDue(x, "a;d0@0", BAD);
        Check.refusal(x, "a bad text", 7, 6, 1);
        Check.due(x, "write(1, 0)", NOTHING);
        Check.refusal(x, "a success", 7, 6, 1);
    }

    private static void account() {
        Check.promise(32, "0 characters, 1 authors, 2 deaths, 3 risings, 4 solved, 5 readers, 6 trials, 7 chapters by authors,"
            + " 8 sworn, 9 characters of the text, 10 changes");
        StoryCoroner x = Check.book(3, 2, "die(0, 3); rise(0, 5); die(0, 6); die(1, 9); motive(2, 0, 1)");
        Check.run(x, "seat(2, 1); seat(4, 2); seat(6, 9); trial(2, 0, 0); leave(4); leave(6); trial(2, 0, 0)");
        Check.run(x, "write(4, 1); write(5, 1); write(5, 0); write(6, 0); swear(1, 1); save(); restore(); author()");
        Check.type(x, "c;c;c");
        Check.numbersDue(x, "account(?)", 3, 3, 3, 1, 1, 1, 2, 3, 1, 5, 1);
        Check.promise(32, "10 the changes that can be undone: at most 8");
        for (int i = 2; i <= 12; i++) {
            Check.run(x, i % 2 == 0 ? "swear(0, 1)" : "swear(0, 0)");
            Check.due(x, "account(10)", Math.min(i, 8));
        }
        Check.promise(32, "9 the characters of the text, up to 70");
        for (int length = 6; length <= 70; length++) {
            Check.run(x, "append(99)");
            Check.due(x, "account(9)", length);
        }
    }

    private static void accountAtItsMost() {
        Check.promise(32, "8 characters, 4 authors, 24 deaths, 24 risings, 24 solved, 7 readers, 30 chapters, 4 sworn");
        StoryCoroner x = Check.book(8, 4);
        for (int seat = 0; seat < 7; seat++) {
            Check.run(x, "seat(" + seat + ", 9)");
        }
        for (int chapter = 1; chapter <= 30; chapter++) {
            Check.run(x, "write(" + chapter + ", " + chapter % 4 + ")");
        }
        Check.run(x, "swear(0, 1); swear(1, 1); swear(2, 1); swear(3, 1)");
        for (int k = 0; k < 8; k++) {
            Check.run(x, "motive(" + (k + 1) % 8 + ", " + k + ", 7)");
            for (int death = 0; death < 3; death++) {
                Check.run(x, "die(" + k + ", " + (4 * death + 1) + "); rise(" + k + ", " + (4 * death + 2) + ")");
                Check.due(x, "trial(" + (k + 1) % 8 + ", " + k + ", " + death + ")", 1);
            }
        }
        Check.numbersDue(x, "account(?)", 8, 4, 24, 24, 24, 7, 24, 30, 4, 0, 8);
        Check.promise(32, "6 the trials so far, more than there are deaths");
        StoryCoroner y = Check.book(2, 0, "die(0, 1); motive(1, 0, 1); seat(0, 2)");
        for (int trials = 1; trials <= 300; trials++) {
            Check.run(y, "trial(1, 0, 0)");
        }
        Check.due(y, "account(6)", 300);
        Check.run(y, "leave(0)");
        Check.refused(y, "trial(1, 0, 0)", 10, 300);
    }

    private static void accountErrors() {
        Check.promise(32, "BAD if there is no such what");
        Check.outside(new StoryCoroner(), "account(?)", 0, 10, BAD);
        Check.outside(Check.book(8, 4), "account(?)", 0, 10, BAD);
    }

    private static void isWell() {
        Check.promise(33, "1 if it is so: of an empty book, and of a full one");
        StoryCoroner x = new StoryCoroner();
        Check.due(x, "isWell()", 1);
        for (int k = 0; k < 8; k++) {
            Check.run(x, "character(); die(" + k + ", " + (k + 1) + ")");
            Check.due(x, "isWell()", 1);
        }
        for (int k = 0; k < 8; k++) {
            Check.run(x, "rise(" + k + ", " + (k + 2) + "); die(" + k + ", " + (k + 3) + "); rise(" + k + ", 20)");
            Check.run(x, "motive(" + k + ", " + (k + 1) % 8 + ", " + (k + 2) + ")");
            Check.run(x, "die(" + k + ", 29); rise(" + k + ", 30)");
            Check.due(x, "isWell()", 1);
        }
        Check.promise(33, "it is so when last ones are struck out, undone and restored");
        Check.run(x, "save()");
        for (String call : new String[] {"strike(3)", "strike(3)", "die(3, 21)", "undo()", "undo()", "restore()"}) {
            Check.run(x, call);
            Check.due("isWell() after " + call, x.isWell(), 1);
        }
    }

    private static void share() {
        Check.promise(34, "NOTHING without deaths");
        StoryCoroner x = new StoryCoroner();
        Check.due(x, "share()", NOTHING);
        Check.run(x, "character(); author(); character(); seat(0, 1); motive(1, 0, 1)");
        Check.due(x, "share()", NOTHING);
        Check.promise(34, "the bits of 0, if none is solved, and of 1, if all are");
        Check.run(x, "die(0, 5)");
        Check.due(x, "share()", 0);
        Check.run(x, "trial(1, 0, 0)");
        Check.due(x, "share()", 0x3f800000);
        Check.promise(34, "deaths count, and not those who are dead");
        Check.run(x, "rise(0, 6)");
        Check.due(x, "share()", 0x3f800000);
        Check.run(x, "die(0, 7)");
        Check.due(x, "share()", 0x3f000000);
        Check.promise(34, "NOTHING when all deaths are struck out");
        Check.run(x, "strike(0); strike(0); strike(0)");
        Check.due(x, "share()", NOTHING);
    }

    /** Each number of deaths from 1 to 24, of which each number is solved; all rise again to be culprits. */
    private static void everyShare() {
        Check.promise(34, "the share of the deaths that are solved, both numbers converted to float");
        for (int deaths = 1; deaths <= 24; deaths++) {
            StoryCoroner x = Check.book(8, 0, "seat(6, 9)");
            for (int k = 0; k < 8; k++) {
                Check.run(x, "motive(" + (k + 1) % 8 + ", " + k + ", 9)");
            }
            for (int death = 0; death < deaths; death++) {
                int chapter = death / 8 * 2 + 1;
                Check.run(x, "die(" + death % 8 + ", " + chapter + "); rise(" + death % 8 + ", " + (chapter + 1) + ")");
            }
            for (int solved = 0; solved <= deaths; solved++) {
                int want = Float.floatToIntBits((float) solved / (float) deaths);
                Check.due("share() with " + solved + " of " + deaths, x.share(), want);
                if (solved < deaths) {
                    Check.due(x, "trial(" + (solved + 1) % 8 + ", " + solved % 8 + ", " + solved / 8 + ")", 1);
                }
            }
        }
    }
}
