/** Promises 10 to 12 and 20 to 23: juries, trials and suspects. */
public final class JuriesTest {
    public static void main(String[] args) {
        seat();
        leave();
        trialErrors();
        trialReasons();
        trialByMajority();
        trialStaysSolved();
        suspect();
        suspectWithMostPages();
        suspectInTheFirstChapter();
        guilty();
        would();
        Check.close("JuriesTest");
    }

    private static void seat() {
        StoryCoroner x = new StoryCoroner();
        Check.due("seat(-1, 1)", x.seat(-1, 1), StoryCoroner.NONE);
        Check.due("seat(7, 0)", x.seat(7, 0), StoryCoroner.NONE);
        Check.due("seat(0, 0)", x.seat(0, 0), StoryCoroner.BAD);
        Check.due("seat(0, 10)", x.seat(0, 10), StoryCoroner.BAD);
        Check.due("seat(3, 1)", x.seat(3, 1), 1);
        Check.due("seat(3, 0) when taken", x.seat(3, 0), StoryCoroner.BAD);
        Check.refused(x, "seat(3, 2) when taken", x.seat(3, 2), 7, 3);
        for (int seat = 0; seat < 7; seat++) {
            if (seat != 3) {
                Check.due("seat", x.seat(seat, 9), seat < 3 ? seat + 2 : seat + 1);
            }
        }
        Check.due("who sit", x.account(5), 7);
    }

    private static void leave() {
        StoryCoroner x = new StoryCoroner();
        Check.due("leave(7)", x.leave(7), StoryCoroner.NONE);
        Check.due("leave(-1)", x.leave(-1), StoryCoroner.NONE);
        Check.refused(x, "leave(6)", x.leave(6), 7, 6);
        x.seat(6, 3);
        x.seat(2, 4);
        Check.due("leave(6)", x.leave(6), 1);
        Check.refused(x, "leave(6) again", x.leave(6), 7, 6);
        Check.due("leave(2)", x.leave(2), 0);
        Check.due("seat(6, 9)", x.seat(6, 9), 1);
    }

    private static void trialErrors() {
        StoryCoroner x = Check.book(2, 0);
        x.die(0, 4);
        Check.due("trial(2, 0, 0)", x.trial(2, 0, 0), StoryCoroner.NONE);
        Check.due("trial(-1, 0, 0)", x.trial(-1, 0, 0), StoryCoroner.NONE);
        Check.due("trial(1, 2, 0)", x.trial(1, 2, 0), StoryCoroner.NONE);
        Check.due("trial(1, 0, 1)", x.trial(1, 0, 1), StoryCoroner.NONE);
        Check.due("trial(1, 0, -1)", x.trial(1, 0, -1), StoryCoroner.NONE);
        Check.due("trial(1, 1, 0)", x.trial(1, 1, 0), StoryCoroner.NONE);
        Check.due("nothing was refused", x.refusal(0), StoryCoroner.NOTHING);
        Check.due("no trials", x.account(6), 0);
    }

    private static void trialReasons() {
        StoryCoroner x = Check.book(3, 0);
        x.die(0, 4);
        Check.refused(x, "of oneself", x.trial(0, 0, 0), 6, 0);
        Check.refused(x, "without a motive", x.trial(1, 0, 0), 9, 4);
        x.motive(1, 0, 5);
        x.motive(2, 0, 4);
        Check.refused(x, "without a jury", x.trial(1, 0, 0), 10, 0);
        x.die(1, 3);
        Check.refused(x, "of one who is dead by then", x.trial(1, 0, 0), 9, 4);
        x.strike(1);
        x.die(1, 4);
        x.seat(0, 6);
        Check.due("not guilty", x.trial(1, 0, 0), 0);
        Check.due("trials", x.account(6), 1);
        x.leave(0);
        Check.refused(x, "without a jury", x.trial(1, 0, 0), 10, 1);
        x.seat(0, 5);
        Check.due("guilty", x.trial(1, 0, 0), 1);
        Check.due("trials", x.account(6), 2);
        x.leave(0);
        Check.refused(x, "when it is solved", x.trial(2, 0, 0), 8, 1);
        Check.refused(x, "of oneself when it is solved", x.trial(0, 0, 0), 6, 0);
        x.motive(1, 0, 0);
        Check.refused(x, "of one who could not, when it is solved", x.trial(1, 0, 0), 8, 1);
        Check.due("refused trials do not count", x.account(6), 2);
    }

    private static void trialByMajority() {
        StoryCoroner x = Check.book(2, 1);
        x.die(0, 4);
        x.motive(1, 0, 5);
        x.seat(0, 5);
        x.seat(1, 6);
        Check.due("one of two", x.trial(1, 0, 0), 0);
        Check.due("nothing else is different", x.deathOf(0, 0, 1), StoryCoroner.NOTHING);
        x.seat(2, 7);
        x.seat(3, 1);
        Check.due("two of four", x.trial(1, 0, 0), 0);
        x.write(4, 0);
        Check.due("two of four, by one who is not sworn", x.trial(1, 0, 0), 0);
        x.swear(0, 1);
        x.seat(4, 8);
        x.seat(5, 9);
        x.seat(6, 8);
        Check.due("four of seven", x.trial(1, 0, 0), 1);
        Check.due("the culprit", x.deathOf(0, 0, 1), 1);
        Check.due("trials", x.account(6), 4);
    }

    private static void trialStaysSolved() {
        StoryCoroner x = Check.book(2, 1);
        x.write(4, 0);
        x.swear(0, 1);
        x.die(0, 4);
        x.motive(1, 0, 5);
        x.seat(0, 7);
        Check.due("trial", x.trial(1, 0, 0), 1);
        x.motive(1, 0, 0);
        x.swear(0, 0);
        x.leave(0);
        x.die(1, 1);
        Check.due("it stays solved", x.deathOf(0, 0, 1), 1);
        Check.due("solved deaths", x.account(4), 1);
    }

    private static void suspect() {
        StoryCoroner x = Check.book(5, 0);
        x.die(0, 10);
        Check.due("suspect(5, 0)", x.suspect(5, 0), StoryCoroner.NONE);
        Check.due("suspect(-1, 0)", x.suspect(-1, 0), StoryCoroner.NONE);
        Check.due("suspect(0, 1)", x.suspect(0, 1), StoryCoroner.NONE);
        Check.due("suspect(0, -1)", x.suspect(0, -1), StoryCoroner.NONE);
        Check.due("suspectAgain(5, 0)", x.suspectAgain(5, 0), StoryCoroner.NONE);
        Check.due("suspectAgain(0, 1)", x.suspectAgain(0, 1), StoryCoroner.NONE);
        Check.due("suspectAgain(0, -1)", x.suspectAgain(0, -1), StoryCoroner.NONE);
        suspects(x, StoryCoroner.NOTHING);
        x.motive(0, 1, 9);
        suspects(x, StoryCoroner.NOTHING);
        x.motive(4, 0, 1);
        suspects(x, 4);
        x.motive(3, 0, 2);
        suspects(x, 3);
        x.motive(2, 0, 2);
        suspects(x, 2);
        x.die(2, 10);
        suspects(x, 2);
        x.strike(2);
        x.die(2, 9);
        suspects(x, 3);
        x.die(3, 1);
        suspects(x, 4);
        x.rise(3, 9);
        suspects(x, 3);
        x.strike(3);
        x.rise(3, 10);
        suspects(x, 4);
    }

    private static void suspectWithMostPages() {
        StoryCoroner x = Check.book(4, 0);
        x.die(3, 10);
        x.motive(0, 3, 1);
        Check.due("suspect", x.suspect(3, 0), 0);
        Check.due("suspectAgain", x.suspectAgain(3, 0), 0);
        x.motive(1, 3, 8);
        x.motive(2, 3, 9);
        Check.due("the most pages", x.suspect(3, 0), 2);
        Check.due("the most pages", x.suspectAgain(3, 0), 2);
        x.motive(0, 3, 9);
        Check.due("of several the lowest", x.suspect(3, 0), 0);
        Check.due("of several the lowest", x.suspectAgain(3, 0), 0);
    }

    private static void suspects(StoryCoroner x, int want) {
        Check.due("suspect", x.suspect(0, 0), want);
        Check.due("suspectAgain", x.suspectAgain(0, 0), want);
        Check.due("isWell", x.isWell(), 1);
    }

    private static void suspectInTheFirstChapter() {
        StoryCoroner x = Check.book(3, 0);
        x.die(0, 1);
        x.die(1, 1);
        x.motive(1, 0, 3);
        Check.due("only the motive counts", x.suspect(0, 0), 1);
        Check.due("only the motive counts", x.suspectAgain(0, 0), 1);
        Check.due("how many could", x.deathOf(0, 0, 3), 1);
        x.rise(0, 2);
        x.die(0, 3);
        Check.due("of a later death", x.suspect(0, 1), StoryCoroner.NOTHING);
        Check.due("of a later death", x.suspectAgain(0, 1), StoryCoroner.NOTHING);
    }

    private static void guilty() {
        StoryCoroner x = Check.book(3, 2);
        x.die(0, 5);
        x.motive(1, 0, 4);
        Check.due("guilty(3, 0, 0)", x.guilty(3, 0, 0), StoryCoroner.NONE);
        Check.due("guilty(1, -1, 0)", x.guilty(1, -1, 0), StoryCoroner.NONE);
        Check.due("guilty(1, 0, 1)", x.guilty(1, 0, 1), StoryCoroner.NONE);
        Check.due("guilty(0, 0, 1)", x.guilty(0, 0, 1), StoryCoroner.NONE);
        Check.due("guilty(0, 0, 0)", x.guilty(0, 0, 0), StoryCoroner.BAD);
        Check.due("nobody sits", x.guilty(1, 0, 0), 0);
        for (int seat = 0; seat < 7; seat++) {
            x.seat(seat, seat + 1);
        }
        Check.due("four pages", x.guilty(1, 0, 0), 4);
        Check.due("without a motive", x.guilty(2, 0, 0), 0);
        x.write(5, 1);
        x.swear(0, 1);
        Check.due("another one is sworn", x.guilty(1, 0, 0), 4);
        x.swear(1, 1);
        Check.due("by one who is sworn", x.guilty(1, 0, 0), 6);
        Check.due("sworn, but without a motive", x.guilty(2, 0, 0), 0);
        x.die(1, 4);
        Check.due("dead in the chapter ahead", x.guilty(1, 0, 0), 0);
    }

    private static void would() {
        StoryCoroner x = Check.book(3, 0);
        x.die(0, 5);
        x.motive(1, 0, 4);
        Check.due("no such seat", x.would(7, 0, 1, 0, 0), StoryCoroner.NONE);
        Check.due("no such seat", x.would(-1, 1, 1, 0, 0), StoryCoroner.NONE);
        Check.due("no such character", x.would(0, 0, 3, 0, 0), StoryCoroner.NONE);
        Check.due("no such character", x.would(0, 1, 1, 3, 0), StoryCoroner.NONE);
        Check.due("no such death", x.would(0, 10, 1, 0, 1), StoryCoroner.NONE);
        Check.due("bad severity", x.would(0, 0, 1, 0, 0), StoryCoroner.BAD);
        Check.due("bad severity", x.would(0, 10, 1, 0, 0), StoryCoroner.BAD);
        Check.due("both are one", x.would(0, 1, 0, 0, 0), StoryCoroner.BAD);
        Check.due("alone, not severe", x.would(0, 4, 1, 0, 0), 1);
        Check.due("alone, severe", x.would(0, 5, 1, 0, 0), 0);
        Check.due("without a motive", x.would(0, 1, 2, 0, 0), 0);
        x.seat(0, 9);
        Check.due("one of two", x.would(1, 1, 1, 0, 0), 0);
        Check.due("in place of the one who sits", x.would(0, 4, 1, 0, 0), 1);
        x.seat(1, 1);
        Check.due("two of three", x.would(2, 4, 1, 0, 0), 1);
        Check.due("one of three", x.would(2, 5, 1, 0, 0), 0);
        Check.due("in place of one who votes", x.would(1, 5, 1, 0, 0), 0);
        Check.due("in place of one, alike", x.would(1, 2, 1, 0, 0), 0);
        Check.due("in place of the severe one", x.would(0, 1, 1, 0, 0), 1);
        Check.due("nobody came", x.account(5), 2);
        x.trial(1, 0, 0);
        Check.due("no trial was made solved", x.deathOf(0, 0, 1), StoryCoroner.NOTHING);
    }
}
