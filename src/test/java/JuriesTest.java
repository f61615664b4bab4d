/** Promises 10 to 12 and 20 to 23: juries, trials, suspects, and what a jury would find. */
public final class JuriesTest {
    private static final int NONE = Check.NONE;
    private static final int BAD = Check.BAD;
    private static final int NOTHING = Check.NOTHING;

    /** Character 0 dies in the chapter 5, and 1 has a motive of 5 pages. */
    private static final String CASE = "die(0, 5); motive(1, 0, 5)";

    public static void main(String[] args) {
        seat();
        seatErrors();
        leave();
        leaveErrors();
        trialErrors();
        trialReasons();
        trialReasonsInTheirOrder();
        trialByMajority();
        trialByPages();
        trialIsCounted();
        solvedStaysSo();
        couldHaveCaused();
        onlyTheMotiveCounts();
        suspectErrors();
        suspectWithTheMostPages();
        suspectOfEachDeath();
        guilty();
        whicheverIsLower();
        guiltyErrors();
        would();
        wouldWithAllSeats();
        wouldErrors();
        Check.close("JuriesTest", 10, 11, 12, 20, 21, 22, 23);
    }

    private static StoryCoroner jury(StoryCoroner x, int... severities) {
        for (int seat = 0; seat < severities.length; seat++) {
            Check.run(x, "seat(" + seat + ", " + severities[seat] + ")");
        }
        return x;
    }

    private static void seat() {
        Check.promise(10, "returns how many sit then; the seats are 0 to 6");
        StoryCoroner x = new StoryCoroner();
        int[] order = {6, 0, 3, 1, 5, 2, 4};
        for (int i = 0; i < 7; i++) {
            Check.due(x, "seat(" + order[i] + ", 9)", i + 1);
        }
        Check.due(x, "account(5)", 7);
        Check.promise(10, "the severities are 1 to 9");
        StoryCoroner y = new StoryCoroner();
        Check.due(y, "seat(0, 1)", 1);
        Check.due(y, "seat(1, 9)", 2);
        Check.lineDue(y, "tellJury()", "19.....");
        Check.promise(10, "each seat has a severity of its own");
        Check.lineDue(jury(new StoryCoroner(), 3, 1, 4, 2, 5, 9, 6), "tellJury()", "3142596");
    }

    private static void seatErrors() {
        Check.promise(10, "NONE if there is no such seat");
        StoryCoroner x = Check.book(8, 4);
        Check.outside(x, "seat(?, 1)", 0, 6, NONE);
        Check.promise(10, "BAD if the severity is out of range");
        Check.outside(x, "seat(0, ?)", 1, 9, BAD);
        Check.promise(10, "NONE comes ahead of BAD");
        Check.due(x, "seat(7, 0)", NONE);
        Check.due(x, "seat(-1, 10)", NONE);
        Check.promise(10, "REFUSED for the reason 7, the seat is taken: the seat");
        Check.run(x, "seat(0, 5); seat(6, 5)");
        Check.refused(x, "seat(0, 5)", 7, 0);
        Check.refused(x, "seat(6, 1)", 7, 6);
        Check.refused(x, "seat(6, 9)", 7, 6);
        Check.lineDue(x, "tellJury()", "5.....5");
        Check.promise(10, "BAD comes ahead of REFUSED");
        Check.outside(x, "seat(6, ?)", 1, 9, BAD);
        Check.promise(10, "a seat that was left is free");
        Check.run(x, "leave(6)");
        Check.due(x, "seat(6, 1)", 2);
    }

    private static void leave() {
        Check.promise(11, "returns how many sit then");
        StoryCoroner x = jury(new StoryCoroner(), 1, 2, 3, 4, 5, 6, 7);
        int[] order = {6, 0, 3, 1, 5, 2, 4};
        for (int i = 0; i < 7; i++) {
            Check.due(x, "leave(" + order[i] + ")", 6 - i);
        }
        Check.due(x, "account(5)", 0);
        Check.promise(11, "lets the reader of that seat go, and no other");
        StoryCoroner y = jury(new StoryCoroner(), 1, 2, 3);
        Check.run(y, "leave(1)");
        Check.lineDue(y, "tellJury()", "1.3....");
    }

    private static void leaveErrors() {
        Check.promise(11, "NONE if there is no such seat");
        StoryCoroner x = new StoryCoroner();
        Check.outside(x, "leave(?)", 0, 6, NONE);
        Check.promise(11, "REFUSED for the reason 7, the seat is empty: the seat");
        Check.refused(x, "leave(0)", 7, 0);
        Check.refused(x, "leave(6)", 7, 6);
        Check.run(x, "seat(3, 1)");
        Check.refused(x, "leave(2)", 7, 2);
        Check.run(x, "leave(3)");
        Check.refused(x, "leave(3)", 7, 3);
    }

    private static void trialErrors() {
        Check.promise(12, "NONE if there is no such character, for either");
        Check.due(new StoryCoroner(), "trial(0, 0, 0)", NONE);
        StoryCoroner x = Check.book(2, 4, CASE + "; seat(0, 1)");
        Check.due(x, "trial(2, 0, 0)", NONE);
        Check.due(x, "trial(1, 2, 0)", NONE);
        Check.outside(x, "trial(?, 0, 0)", 0, 7, NONE);
        Check.outside(x, "trial(1, ?, 0)", 0, 7, NONE);
        Check.promise(12, "NONE if there is no such death");
        Check.due(x, "trial(1, 0, 1)", NONE);
        Check.due(x, "trial(0, 1, 0)", NONE);
        Check.outside(x, "trial(1, 0, ?)", 0, 2, NONE);
        Check.run(x, "rise(0, 6)");
        Check.due(x, "trial(1, 0, 1)", NONE);
        Check.promise(12, "NONE comes ahead of REFUSED");
        Check.due(x, "trial(1, 1, 0)", NONE);
        Check.due(x, "trial(0, 0, 1)", NONE);
        Check.due(x, "trial(2, 2, 0)", NONE);
        Check.due(x, "refusal(0)", NOTHING);
        Check.due(x, "account(6)", 0);
        Check.promise(12, "no death is there that was struck out");
        Check.run(x, "strike(0); strike(0)");
        Check.due(x, "trial(1, 0, 0)", NONE);
    }

    private static void trialReasons() {
        Check.promise(12, "REFUSED for the reason 6, both are one: the character");
        StoryCoroner x = Check.book(3, 0, CASE + "; die(2, 6); seat(0, 9)");
        Check.refused(x, "trial(0, 0, 0)", 6, 0);
        Check.refused(x, "trial(2, 2, 0)", 6, 2);
        Check.promise(12, "REFUSED for the reason 9, that one could not have caused it: the chapter of the death");
        Check.refused(x, "trial(2, 0, 0)", 9, 5);
        Check.refused(x, "trial(0, 2, 0)", 9, 6);
        Check.run(x, "die(1, 4)");
        Check.refused(x, "trial(1, 0, 0)", 9, 5);
        Check.run(x, "strike(1); die(1, 5)");
        Check.due(x, "trial(1, 0, 0)", 0);
        Check.promise(12, "REFUSED for the reason 10, nobody sits on the jury: how many trials there were");
        Check.refused(Check.book(2, 0, CASE), "trial(1, 0, 0)", 10, 0);
        Check.run(x, "leave(0)");
        Check.refused(x, "trial(1, 0, 0)", 10, 1);
        Check.run(x, "seat(6, 8); trial(1, 0, 0); leave(6)");
        Check.refused(x, "trial(1, 0, 0)", 10, 2);
        Check.promise(12, "REFUSED for the reason 8, the death is solved: the culprit");
        Check.run(x, "seat(6, 5); trial(1, 0, 0); motive(2, 0, 9)");
        Check.refused(x, "trial(1, 0, 0)", 8, 1);
        Check.refused(x, "trial(2, 0, 0)", 8, 1);
        StoryCoroner y = Check.book(8, 0, "die(7, 1); motive(0, 7, 1); seat(0, 1); trial(0, 7, 0); motive(6, 7, 9)");
        Check.refused(y, "trial(6, 7, 0)", 8, 0);
        Check.promise(12, "REFUSED for the reason 9 in the first and in the last chapter");
        StoryCoroner z = Check.book(2, 0, "die(0, 1); rise(0, 2); die(0, 30); seat(0, 1)");
        Check.refused(z, "trial(1, 0, 0)", 9, 1);
        Check.refused(z, "trial(1, 0, 1)", 9, 30);
    }

    private static void trialReasonsInTheirOrder() {
        Check.promise(12, "the reason 6 comes ahead of 8, 9 and 10");
        StoryCoroner solved = Check.book(2, 0, CASE + "; seat(0, 1); trial(1, 0, 0)");
        Check.refused(solved, "trial(0, 0, 0)", 6, 0);
        Check.refused(Check.book(1, 0, "die(0, 5); seat(0, 1)"), "trial(0, 0, 0)", 6, 0);
        Check.refused(Check.book(1, 0, "die(0, 5)"), "trial(0, 0, 0)", 6, 0);
        Check.promise(12, "the reason 8 comes ahead of 9");
        Check.run(solved, "motive(1, 0, 0)");
        Check.refused(solved, "trial(1, 0, 0)", 8, 1);
        Check.promise(12, "the reason 8 comes ahead of 10");
        Check.run(solved, "leave(0)");
        Check.refused(solved, "trial(1, 0, 0)", 8, 1);
        Check.run(solved, "motive(1, 0, 1)");
        Check.refused(solved, "trial(1, 0, 0)", 8, 1);
        Check.promise(12, "the reason 9 comes ahead of 10");
        Check.refused(Check.book(2, 0, "die(0, 5)"), "trial(1, 0, 0)", 9, 5);
    }

    /** Readers who find guilty have the severity 5, the others 6. */
    private static void trialByMajority() {
        Check.promise(12, "1 if the jury finds guilty, otherwise 0: more than half of those who sit");
        for (int many = 1; many <= 7; many++) {
            for (int votes = 0; votes <= many; votes++) {
                StoryCoroner x = Check.book(2, 0, CASE);
                for (int seat = 0; seat < many; seat++) {
                    Check.run(x, "seat(" + (6 - seat) + ", " + (seat < votes ? 5 : 6) + ")");
                }
                int want = 2 * votes > many ? 1 : 0;
                String told = votes + " of " + many + ": ";
                Check.due(told + "guilty", x.guilty(1, 0, 0), votes);
                Check.due(told + "trial", x.trial(1, 0, 0), want);
                Check.due(told + "solved", x.account(4), want);
                Check.due(told + "culprit", x.deathOf(0, 0, 1), want == 1 ? 1 : NOTHING);
            }
        }
        Check.promise(12, "solved with that character as the culprit, of that death");
        StoryCoroner y = Check.book(8, 0, "die(7, 5); rise(7, 8); die(7, 9); rise(7, 11); die(7, 13); motive(6, 7, 5);"
            + "motive(0, 7, 5); seat(0, 5)");
        Check.due(y, "trial(6, 7, 1)", 1);
        Check.lineDue(y, "tellCharacter(7)", "7:+5^8+9=6^11+13");
        Check.due(y, "trial(0, 7, 2)", 1);
        Check.lineDue(y, "tellCharacter(7)", "7:+5^8+9=6^11+13=0");
    }

    private static void trialByPages() {
        Check.term("Juries", "the pages of the motive are not fewer than the severity");
        for (int pages = 1; pages <= 9; pages++) {
            for (int severity = 1; severity <= 9; severity++) {
                StoryCoroner x = Check.book(2, 1, "die(0, 5); motive(1, 0, " + pages + "); seat(3, " + severity + ")");
                String told = "trial with " + pages + " pages, severity " + severity;
                Check.due(told, x.trial(1, 0, 0), pages >= severity ? 1 : 0);
            }
        }
        Check.term("Juries", "and 2 more if the author of the chapter of the death is sworn");
        for (int pages = 1; pages <= 9; pages++) {
            for (int severity = 1; severity <= 9; severity++) {
                StoryCoroner x = Check.book(2, 4, "die(0, 5); motive(1, 0, " + pages + "); seat(3, " + severity + ")");
                Check.run(x, "write(5, 3); swear(3, 1)");
                String told = "sworn, " + pages + " pages, severity " + severity;
                Check.due("guilty, " + told, x.guilty(1, 0, 0), pages + 2 >= severity ? 1 : 0);
                Check.due("trial, " + told, x.trial(1, 0, 0), pages + 2 >= severity ? 1 : 0);
            }
        }
        Check.term("Juries", "no more without an author, or one who is not sworn, or another chapter or author sworn");
        String seven = CASE + "; seat(0, 7)";
        Check.due(Check.book(2, 2, seven + "; swear(0, 1)"), "trial(1, 0, 0)", 0);
        Check.due(Check.book(2, 2, seven + "; write(5, 0)"), "trial(1, 0, 0)", 0);
        Check.due(Check.book(2, 2, seven + "; write(5, 1); swear(0, 1)"), "trial(1, 0, 0)", 0);
        Check.due(Check.book(2, 2, seven + "; write(4, 0); write(6, 0); swear(0, 1)"), "trial(1, 0, 0)", 0);
        Check.due(Check.book(2, 2, seven + "; write(5, 0); swear(0, 1); swear(0, 0)"), "trial(1, 0, 0)", 0);
        Check.due(Check.book(2, 2, seven + "; write(5, 0); swear(0, 1); write(5, 1)"), "trial(1, 0, 0)", 0);
        Check.due(Check.book(2, 2, seven + "; write(5, 1); swear(0, 1); write(5, 0)"), "trial(1, 0, 0)", 1);
        Check.due(Check.book(2, 2, seven + "; write(5, 0); swear(0, 1)"), "trial(1, 0, 0)", 1);
    }

    private static void trialIsCounted() {
        Check.term("Trials", "it does not find guilty, by which the trial is counted and nothing else is different");
        StoryCoroner x = Check.book(2, 0, CASE + "; seat(0, 6); trial(1, 0, 0)");
        Check.due(x, "account(6)", 1);
        Check.lineDue(x, "tellCharacter(0)", "0:+5");
        Check.due(x, "characterOf(1, 4)", 0);
        Check.lineDue(x, "tellJury()", "6......");
        Check.due(x, "pages(1, 0)", 5);
        Check.due(x, "trial(1, 0, 0)", 0);
        Check.due(x, "account(6)", 2);
        Check.term("Trials", "a trial that finds guilty is a trial, too");
        Check.run(x, "leave(0); seat(0, 5)");
        Check.due(x, "trial(1, 0, 0)", 1);
        Check.due(x, "account(6)", 3);
        Check.term("Trials", "a trial that is refused is not counted");
        Check.refused(x, "trial(1, 0, 0)", 8, 1);
        Check.refused(x, "trial(0, 0, 0)", 6, 0);
        Check.due(x, "trial(1, 0, 1)", NONE);
        Check.due(x, "account(6)", 3);
        Check.term("Trials", "a trial stays counted when its death is struck out");
        Check.run(x, "strike(0)");
        Check.due(x, "account(6)", 3);
    }

    private static void solvedStaysSo() {
        Check.term("In doubt", "a death that is solved stays so when motives, authors and juries change");
        StoryCoroner x = Check.book(3, 2, CASE + "; write(5, 0); swear(0, 1); seat(0, 7); trial(1, 0, 0)");
        for (String change : new String[] {"motive(1, 0, 0)", "motive(2, 0, 9)", "swear(0, 0)", "write(5, 1)",
            "leave(0)", "seat(0, 9)", "die(1, 1)", "rise(0, 6)"}) {
            Check.run(x, change);
            Check.due("deathOf(0, 0, 1) after " + change, x.deathOf(0, 0, 1), 1);
            Check.due("account(4) after " + change, x.account(4), 1);
        }
        Check.due(x, "characterOf(1, 4)", 1);
    }

    private static void suspectsDue(StoryCoroner x, int character, int death, int want, int many) {
        String of = "(" + character + ", " + death;
        Check.due(x, "suspect" + of + ")", want);
        Check.due(x, "suspectAgain" + of + ")", want);
        Check.due(x, "deathOf" + of + ", 3)", many);
    }

    private static void couldHaveCaused() {
        Check.term("Suspects", "has a motive against that one");
        StoryCoroner x = Check.book(3, 0, "die(0, 10); motive(0, 1, 9); motive(1, 2, 9)");
        suspectsDue(x, 0, 0, NOTHING, 0);
        Check.run(x, "motive(2, 0, 1)");
        suspectsDue(x, 0, 0, 2, 1);
        Check.term("Suspects", "is not dead in the chapter ahead of that of the death");
        suspectsDue(Check.book(2, 0, "die(0, 10); motive(1, 0, 1); die(1, 9)"), 0, 0, NOTHING, 0);
        suspectsDue(Check.book(2, 0, "die(0, 10); motive(1, 0, 1); die(1, 8)"), 0, 0, NOTHING, 0);
        suspectsDue(Check.book(2, 0, "die(0, 10); motive(1, 0, 1); die(1, 1)"), 0, 0, NOTHING, 0);
        suspectsDue(Check.book(2, 0, "die(0, 10); motive(1, 0, 1); die(1, 8); rise(1, 10)"), 0, 0, NOTHING, 0);
        suspectsDue(Check.book(2, 0, "die(0, 10); motive(1, 0, 1); die(1, 8); rise(1, 11)"), 0, 0, NOTHING, 0);
        Check.term("Suspects", "who dies in the chapter of the death, or rose in the chapter ahead, could have");
        suspectsDue(Check.book(2, 0, "die(0, 10); motive(1, 0, 1); die(1, 10)"), 0, 0, 1, 1);
        suspectsDue(Check.book(2, 0, "die(0, 10); motive(1, 0, 1); die(1, 11)"), 0, 0, 1, 1);
        suspectsDue(Check.book(2, 0, "die(0, 10); motive(1, 0, 1); die(1, 8); rise(1, 9)"), 0, 0, 1, 1);
        suspectsDue(Check.book(2, 0, "die(0, 10); motive(1, 0, 1); die(1, 1); rise(1, 2)"), 0, 0, 1, 1);
        suspectsDue(Check.book(2, 0, "die(0, 10); motive(1, 0, 1); die(1, 7); rise(1, 9); die(1, 10)"), 0, 0, 1, 1);
        Check.term("Suspects", "in a death in the chapter 2, the chapter 1 is the one ahead");
        suspectsDue(Check.book(2, 0, "die(0, 2); motive(1, 0, 1); die(1, 1)"), 0, 0, NOTHING, 0);
        suspectsDue(Check.book(2, 0, "die(0, 2); motive(1, 0, 1); die(1, 2)"), 0, 0, 1, 1);
        Check.term("Suspects", "in a death in the chapter 30, the chapter 29 is the one ahead");
        suspectsDue(Check.book(2, 0, "die(0, 30); motive(1, 0, 1); die(1, 29)"), 0, 0, NOTHING, 0);
        suspectsDue(Check.book(2, 0, "die(0, 30); motive(1, 0, 1); die(1, 30)"), 0, 0, 1, 1);
    }

    private static void onlyTheMotiveCounts() {
        Check.term("Suspects", "in a death in the chapter 1 only the motive counts");
        StoryCoroner x = Check.book(4, 0, "die(0, 1); die(1, 1); motive(1, 0, 3); motive(2, 0, 2); seat(0, 1)");
        suspectsDue(x, 0, 0, 1, 2);
        suspectsDue(x, 1, 0, NOTHING, 0);
        Check.due(x, "guilty(1, 0, 0)", 1);
        Check.due(x, "would(0, 3, 1, 0, 0)", 1);
        Check.refused(x, "trial(3, 0, 0)", 9, 1);
        Check.due(x, "trial(1, 0, 0)", 1);
        Check.run(x, "rise(0, 2); die(0, 3)");
        suspectsDue(x, 0, 1, 2, 1);
    }

    private static void suspectErrors() {
        for (String name : new String[] {"suspect", "suspectAgain"}) {
            int promise = name.equals("suspect") ? 20 : 21;
            Check.promise(promise, "NONE if there is no such character");
            Check.due(new StoryCoroner(), name + "(0, 0)", NONE);
            StoryCoroner x = Check.book(2, 4, CASE);
            Check.due(x, name + "(2, 0)", NONE);
            Check.outside(x, name + "(?, 0)", 0, 7, NONE);
            Check.promise(promise, "NONE if there is no such death");
            Check.due(x, name + "(1, 0)", NONE);
            Check.due(x, name + "(0, 1)", NONE);
            Check.outside(x, name + "(0, ?)", 0, 2, NONE);
            Check.run(x, "rise(0, 6)");
            Check.due(x, name + "(0, 1)", NONE);
            Check.run(x, "strike(0); strike(0)");
            Check.due(x, name + "(0, 0)", NONE);
            Check.promise(promise, "NOTHING if there is none");
            Check.due(Check.book(1, 0, "die(0, 5)"), name + "(0, 0)", NOTHING);
            Check.due(Check.book(8, 0, "die(0, 5); motive(0, 1, 9)"), name + "(0, 0)", NOTHING);
            Check.due(Check.book(2, 0, CASE + "; die(1, 4)"), name + "(0, 0)", NOTHING);
        }
    }

    private static void suspectWithTheMostPages() {
        for (String name : new String[] {"suspect(7, 0)", "suspectAgain(7, 0)"}) {
            int promise = name.equals("suspect(7, 0)") ? 20 : 21;
            Check.promise(promise, "the suspect is the one with the most pages, from 1 to 9");
            for (int pages = 1; pages <= 9; pages++) {
                Check.due(Check.book(8, 0, "die(7, 5); motive(3, 7, " + pages + ")"), name, 3);
                String two = "die(7, 5); motive(3, 7, " + pages + "); motive(4, 7, " + Math.max(1, pages - 1) + ")";
                Check.due(Check.book(8, 0, two), name, 3);
            }
            StoryCoroner rising = Check.book(8, 0, "die(7, 5)");
            StoryCoroner falling = Check.book(8, 0, "die(7, 5)");
            for (int k = 0; k < 7; k++) {
                Check.run(rising, "motive(" + k + ", 7, " + (k + 3) + ")");
                Check.due(rising, name, k);
                Check.run(falling, "motive(" + (6 - k) + ", 7, " + (k + 3) + ")");
                Check.due(falling, name, 6 - k);
            }
            Check.promise(promise, "of several the lowest");
            StoryCoroner x = Check.book(8, 0, "die(7, 5); motive(6, 7, 4)");
            for (int k = 5; k >= 0; k--) {
                Check.run(x, "motive(" + k + ", 7, 4)");
                Check.due(x, name, k);
            }
            Check.promise(promise, "of those who could have caused it");
            for (int k = 0; k < 6; k++) {
                Check.run(x, "die(" + k + ", 4)");
                Check.due(x, name, k + 1);
            }
            Check.due(Check.book(8, 0, "die(7, 5); motive(0, 7, 9); motive(1, 7, 1); die(0, 4)"), name, 1);
        }
    }

    private static void suspectOfEachDeath() {
        Check.promise(20, "the suspect of that death, and of that character");
        StoryCoroner x = Check.book(4, 0, "die(0, 5); rise(0, 8); die(0, 10); rise(0, 11); die(0, 20); die(3, 7)");
        Check.run(x, "motive(1, 0, 9); motive(2, 0, 4); motive(0, 3, 8); motive(1, 3, 7); die(1, 8); rise(1, 12)");
        suspectsDue(x, 0, 0, 1, 2);
        suspectsDue(x, 0, 1, 2, 1);
        suspectsDue(x, 0, 2, 1, 2);
        Check.promise(21, "the same by a second way");
        suspectsDue(x, 3, 0, 1, 1);
        Check.run(x, "strike(3); die(3, 9)");
        suspectsDue(x, 3, 0, 0, 1);
        Check.promise(20, "a death that is solved has its suspect still");
        Check.run(x, "seat(0, 1); trial(2, 0, 0)");
        suspectsDue(x, 0, 0, 1, 2);
    }

    private static void guilty() {
        Check.promise(22, "returns how many readers would find guilty");
        StoryCoroner x = Check.book(3, 2, "die(0, 5); motive(1, 0, 4)");
        Check.due(x, "guilty(1, 0, 0)", 0);
        int[] severities = {4, 5, 3, 9, 4, 6, 7};
        int[] votes = {1, 1, 2, 2, 3, 3, 3};
        for (int seat = 0; seat < 7; seat++) {
            Check.run(x, "seat(" + seat + ", " + severities[seat] + ")");
            Check.due(x, "guilty(1, 0, 0)", votes[seat]);
        }
        Check.promise(22, "with 2 pages more by one who is sworn");
        Check.run(x, "write(5, 1); swear(0, 1)");
        Check.due(x, "guilty(1, 0, 0)", 3);
        Check.run(x, "swear(1, 1)");
        Check.due(x, "guilty(1, 0, 0)", 5);
        Check.promise(22, "nobody, if that one could not have caused it, by one who is sworn, too");
        StoryCoroner all = jury(Check.book(3, 1, "die(0, 5); motive(1, 0, 9); write(5, 0); swear(0, 1)"), 1, 1, 1, 1, 1, 1, 1);
        Check.due(all, "guilty(1, 0, 0)", 7);
        Check.due(all, "guilty(2, 0, 0)", 0);
        Check.run(all, "die(1, 4)");
        Check.due(all, "guilty(1, 0, 0)", 0);
        Check.promise(22, "of a death that is solved, as of another, and no trial is made");
        StoryCoroner y = Check.book(2, 0, CASE + "; seat(2, 5); trial(1, 0, 0)");
        Check.due(y, "guilty(1, 0, 0)", 1);
        Check.due(y, "account(6)", 1);
    }

    private static void whicheverIsLower() {
        StoryCoroner x = Check.book(8, 0, "die(7, 5); die(0, 5); motive(0, 7, 3); motive(7, 0, 6); seat(0, 3)");
        Check.promise(22, "whichever of both has the lower number");
        Check.due(x, "guilty(0, 7, 0)", 1);
        Check.due(x, "guilty(7, 0, 0)", 1);
        Check.promise(23, "whichever of both has the lower number");
        Check.due(x, "would(0, 3, 0, 7, 0)", 1);
        Check.due(x, "would(0, 4, 0, 7, 0)", 0);
        Check.due(x, "would(0, 6, 7, 0, 0)", 1);
        Check.due(x, "would(0, 7, 7, 0, 0)", 0);
        Check.promise(12, "whichever of both has the lower number");
        Check.due(x, "trial(0, 7, 0)", 1);
        Check.due(x, "trial(7, 0, 0)", 1);
        Check.lineDue(x, "tellCharacter(0)", "0:+5=7");
        Check.lineDue(x, "tellCharacter(7)", "7:+5=0");
    }

    private static void guiltyErrors() {
        Check.promise(22, "NONE if there is no such character, for either");
        Check.due(new StoryCoroner(), "guilty(0, 0, 0)", NONE);
        StoryCoroner x = Check.book(2, 4, CASE + "; seat(0, 1)");
        Check.due(x, "guilty(2, 0, 0)", NONE);
        Check.due(x, "guilty(1, 2, 0)", NONE);
        Check.outside(x, "guilty(?, 0, 0)", 0, 7, NONE);
        Check.outside(x, "guilty(1, ?, 0)", 0, 7, NONE);
        Check.promise(22, "NONE if there is no such death");
        Check.due(x, "guilty(0, 1, 0)", NONE);
        Check.due(x, "guilty(1, 0, 1)", NONE);
        Check.outside(x, "guilty(1, 0, ?)", 0, 2, NONE);
        Check.promise(22, "BAD if both are one");
        Check.due(x, "guilty(0, 0, 0)", BAD);
        Check.promise(22, "NONE comes ahead of BAD");
        Check.due(x, "guilty(0, 0, 1)", NONE);
        Check.due(x, "guilty(1, 1, 0)", NONE);
        Check.due(x, "guilty(2, 2, 0)", NONE);
        Check.due(x, "refusal(0)", NOTHING);
    }

    private static void would() {
        Check.promise(23, "on a seat that is empty: 1 if it would find guilty, otherwise 0");
        StoryCoroner x = Check.book(3, 1, CASE);
        for (int severity = 1; severity <= 9; severity++) {
            Check.due(x, "would(0, " + severity + ", 1, 0, 0)", severity <= 5 ? 1 : 0);
            Check.due(x, "would(6, " + severity + ", 1, 0, 0)", severity <= 5 ? 1 : 0);
        }
        jury(x, 6);
        Check.due(x, "would(1, 5, 1, 0, 0)", 0);
        Check.promise(23, "in place of the one who sits there");
        Check.due(x, "would(0, 5, 1, 0, 0)", 1);
        Check.due(x, "would(0, 6, 1, 0, 0)", 0);
        Check.run(x, "leave(0); seat(0, 5)");
        Check.due(x, "would(0, 5, 1, 0, 0)", 1);
        Check.due(x, "would(0, 6, 1, 0, 0)", 0);
        Check.due(x, "would(1, 6, 1, 0, 0)", 0);
        Check.due(x, "would(1, 5, 1, 0, 0)", 1);
        Check.promise(23, "with 2 pages more by one who is sworn");
        Check.run(x, "write(5, 0); swear(0, 1)");
        Check.due(x, "would(0, 7, 1, 0, 0)", 1);
        Check.due(x, "would(0, 8, 1, 0, 0)", 0);
        Check.promise(23, "0, if that one could not have caused it, by one who is sworn, too");
        Check.due(x, "would(0, 1, 2, 0, 0)", 0);
        Check.run(x, "die(1, 4)");
        Check.due(x, "would(0, 1, 1, 0, 0)", 0);
        Check.promise(23, "nothing is different by it");
        Check.lineDue(x, "tellJury()", "5......");
        Check.due(x, "account(5)", 1);
        Check.due(x, "account(6)", 0);
        Check.due(x, "account(4)", 0);
    }

    /** Readers who find guilty have the severity 5, the others 6. */
    private static void wouldWithAllSeats() {
        Check.term("In doubt", "what another reader would change is told with all others as they sit");
        for (int many = 0; many <= 7; many++) {
            for (int votes = 0; votes <= many; votes++) {
                StoryCoroner x = Check.book(2, 0, CASE);
                for (int seat = 0; seat < many; seat++) {
                    Check.run(x, "seat(" + seat + ", " + (seat < votes ? 5 : 6) + ")");
                }
                for (int seat = 0; seat < 7; seat++) {
                    int others = votes - (seat < votes ? 1 : 0);
                    int all = Math.max(many, seat < many ? many : many + 1);
                    String told = " with " + votes + " of " + many;
                    Check.due("would(" + seat + ", 5, 1, 0, 0)" + told, x.would(seat, 5, 1, 0, 0), 2 * (others + 1) > all ? 1 : 0);
                    Check.due("would(" + seat + ", 6, 1, 0, 0)" + told, x.would(seat, 6, 1, 0, 0), 2 * others > all ? 1 : 0);
                }
            }
        }
    }

    private static void wouldErrors() {
        Check.promise(23, "NONE if there is no such seat");
        Check.due(new StoryCoroner(), "would(0, 1, 0, 0, 0)", NONE);
        StoryCoroner x = Check.book(2, 4, CASE + "; seat(0, 1)");
        Check.outside(x, "would(?, 1, 1, 0, 0)", 0, 6, NONE);
        Check.promise(23, "NONE if there is no such character, for either");
        Check.due(x, "would(0, 1, 2, 0, 0)", NONE);
        Check.due(x, "would(0, 1, 1, 2, 0)", NONE);
        Check.outside(x, "would(0, 1, ?, 0, 0)", 0, 7, NONE);
        Check.outside(x, "would(0, 1, 1, ?, 0)", 0, 7, NONE);
        Check.promise(23, "NONE if there is no such death");
        Check.due(x, "would(0, 1, 0, 1, 0)", NONE);
        Check.due(x, "would(0, 1, 1, 0, 1)", NONE);
        Check.outside(x, "would(0, 1, 1, 0, ?)", 0, 2, NONE);
        Check.promise(23, "BAD if the severity is out of range");
        Check.outside(x, "would(0, ?, 1, 0, 0)", 1, 9, BAD);
        Check.outside(x, "would(1, ?, 1, 0, 0)", 1, 9, BAD);
        Check.promise(23, "BAD if both are one");
        Check.due(x, "would(0, 1, 0, 0, 0)", BAD);
        Check.due(x, "would(6, 9, 0, 0, 0)", BAD);
        Check.promise(23, "NONE comes ahead of BAD");
        Check.due(x, "would(7, 0, 1, 0, 0)", NONE);
        Check.due(x, "would(0, 10, 2, 0, 0)", NONE);
        Check.due(x, "would(0, 0, 1, -1, 0)", NONE);
        Check.due(x, "would(0, 10, 1, 0, 1)", NONE);
        Check.due(x, "would(-1, 1, 0, 0, 0)", NONE);
        Check.due(x, "would(0, 1, 0, 0, 1)", NONE);
        Check.due(x, "would(0, 1, 1, 1, 0)", NONE);
        Check.due(x, "refusal(0)", NOTHING);
    }
}
