/** Promises 13 to 19 and 24: what there is, and orders. */
public final class BookTest {
    private static final int NONE = Check.NONE;
    private static final int BAD = Check.BAD;
    private static final int NOTHING = Check.NOTHING;

    public static void main(String[] args) {
        characterOf();
        characterOfAtItsMost();
        characterOfErrors();
        deathOf();
        deathOfAtItsMost();
        deathOfErrors();
        authorOf();
        authorOfAtItsMost();
        authorOfErrors();
        pages();
        deadAndAgain();
        deadTogether();
        deadErrors();
        darkest();
        darkestOfEachChapter();
        rankedErrors();
        rankedByDeaths();
        rankedByChapters();
        rankedByCulprits();
        rankedAuthors();
        Check.close("BookTest", 13, 14, 15, 16, 17, 18, 19, 24);
    }

    /** Character 0 dies thrice, of which 1 and 2 are the culprits of one each; the author 1 wrote most of it. */
    private static StoryCoroner told() {
        return Check.book(4, 3, "die(0, 3); rise(0, 7); die(0, 10); rise(0, 11); die(0, 29); die(1, 20); rise(1, 21);"
            + "die(2, 30); motive(1, 0, 5); motive(2, 0, 9); motive(0, 2, 4); motive(0, 1, 2); seat(0, 2);"
            + "trial(1, 0, 0); trial(2, 0, 2); trial(0, 1, 0);"
            + "write(3, 1); write(4, 1); write(30, 2); write(20, 1); write(10, 1); swear(2, 1)");
    }

    private static void characterOf() {
        StoryCoroner x = told();
        Check.promise(13, "0 died, 1 rose, 2 chapters, 3 solved, 4 culprit of, 5 pages of motives, 6 pages against");
        Check.numbersDue(x, "characterOf(0, ?)", 3, 2, 30 - 4 - 1 - 2, 2, 1, 6, 14);
        Check.numbersDue(x, "characterOf(1, ?)", 1, 1, 29, 1, 1, 5, 2);
        Check.numbersDue(x, "characterOf(2, ?)", 1, 0, 29, 0, 1, 9, 4);
        Check.numbersDue(x, "characterOf(3, ?)", 0, 0, 30, 0, 0, 0, 0);
        Check.promise(13, "2 in how many chapters the character lives: from 0 to 30");
        Check.due(Check.book(1, 0), "characterOf(0, 2)", 30);
        Check.due(Check.book(1, 0, "die(0, 1)"), "characterOf(0, 2)", 0);
        Check.due(Check.book(1, 0, "die(0, 2)"), "characterOf(0, 2)", 1);
        Check.due(Check.book(1, 0, "die(0, 30)"), "characterOf(0, 2)", 29);
        Check.due(Check.book(1, 0, "die(0, 29); rise(0, 30)"), "characterOf(0, 2)", 29);
        Check.due(Check.book(1, 0, "die(0, 1); rise(0, 30)"), "characterOf(0, 2)", 1);
        Check.due(Check.book(1, 0, "die(0, 1); rise(0, 2); die(0, 3)"), "characterOf(0, 2)", 1);
    }

    private static void characterOfAtItsMost() {
        Check.promise(13, "the greatest numbers: 3 deaths and risings, 63 pages of seven motives");
        StoryCoroner x = Check.book(8, 0);
        for (int other = 0; other < 7; other++) {
            Check.run(x, "motive(7, " + other + ", 9); motive(" + other + ", 7, 9)");
        }
        Check.run(x, "die(7, 1); rise(7, 2); die(7, 3); rise(7, 4); die(7, 5); rise(7, 6)");
        Check.numbersDue(x, "characterOf(7, ?)", 3, 3, 27, 0, 0, 63, 63);
        Check.numbersDue(x, "characterOf(0, ?)", 0, 0, 30, 0, 0, 9, 9);
        Check.promise(13, "the greatest numbers: all 3 deaths solved, the culprit of 21");
        StoryCoroner y = Check.book(8, 0, "seat(0, 1)");
        for (int k = 0; k < 7; k++) {
            Check.run(y, "motive(7, " + k + ", 1)");
            for (int death = 0; death < 3; death++) {
                Check.run(y, "die(" + k + ", " + (3 * death + 2) + ")");
                Check.run(y, "trial(7, " + k + ", " + death + "); rise(" + k + ", " + (3 * death + 4) + ")");
            }
            Check.numbersDue(y, "characterOf(" + k + ", ?)", 3, 3, 24, 3, 0, 0, 1);
        }
        Check.numbersDue(y, "characterOf(7, ?)", 0, 0, 30, 0, 21, 7, 0);
        Check.promise(13, "4 of how many deaths the culprit: of each character's own");
        StoryCoroner z = Check.book(3, 0, "die(0, 4); die(2, 4); motive(2, 0, 1); motive(0, 2, 1); seat(0, 1); trial(2, 0, 0)");
        Check.due(z, "characterOf(0, 4)", 0);
        Check.due(z, "characterOf(1, 4)", 0);
        Check.due(z, "characterOf(2, 4)", 1);
        Check.run(z, "trial(0, 2, 0)");
        Check.due(z, "characterOf(0, 4)", 1);
        Check.due(z, "characterOf(2, 4)", 1);
    }

    private static void characterOfErrors() {
        StoryCoroner x = told();
        Check.promise(13, "NONE if there is no such character");
        Check.due(new StoryCoroner(), "characterOf(0, 0)", NONE);
        Check.due(x, "characterOf(4, 0)", NONE);
        Check.outside(x, "characterOf(?, 2)", 0, 7, NONE);
        Check.outside(Check.book(8, 0), "characterOf(?, 2)", 0, 7, NONE);
        Check.promise(13, "BAD if there is no such what");
        Check.outside(x, "characterOf(0, ?)", 0, 6, BAD);
        Check.promise(13, "NONE comes ahead of BAD");
        Check.outside(x, "characterOf(4, ?)", 0, 6, NONE);
    }

    private static void deathOf() {
        StoryCoroner x = told();
        Check.promise(14, "0 its chapter, 1 the culprit, 2 the author, 3 how many could, 4 the chapter of the next rising");
        Check.numbersDue(x, "deathOf(0, 0, ?)", 3, 1, 1, 2, 7);
        Check.numbersDue(x, "deathOf(0, 1, ?)", 10, NOTHING, 1, 2, 11);
        Check.numbersDue(x, "deathOf(1, 0, ?)", 20, 0, 1, 1, 21);
        Check.promise(14, "NOTHING if it is not solved, without an author, if there is no rising");
        Check.numbersDue(x, "deathOf(0, 2, ?)", 29, 2, NOTHING, 2, NOTHING);
        Check.numbersDue(x, "deathOf(2, 0, ?)", 30, NOTHING, 2, 0, NOTHING);
        Check.promise(14, "3 how many could have caused it: not who is dead in the chapter ahead");
        Check.run(x, "die(1, 28)");
        Check.due(x, "deathOf(0, 2, 3)", 1);
        Check.promise(14, "2 the author of its chapter then");
        Check.run(x, "write(3, 0)");
        Check.due(x, "deathOf(0, 0, 2)", 0);
        Check.promise(14, "4 the chapter in which the character rises next, as it was told and struck out");
        Check.run(x, "rise(0, 30)");
        Check.due(x, "deathOf(0, 2, 4)", 30);
        Check.run(x, "strike(0)");
        Check.due(x, "deathOf(0, 2, 4)", NOTHING);
        Check.run(x, "strike(2)");
        Check.due(x, "deathOf(2, 0, 0)", NONE);
    }

    private static void deathOfAtItsMost() {
        Check.promise(14, "0 the first and the last chapter, 2 the last author, 1 the first and the last character");
        StoryCoroner x = Check.book(8, 4, "die(6, 1); rise(6, 2); die(6, 30); write(1, 3); write(30, 0); seat(0, 1)");
        Check.run(x, "motive(7, 6, 1); motive(0, 6, 1); trial(0, 6, 0); trial(7, 6, 1)");
        Check.numbersDue(x, "deathOf(6, 0, ?)", 1, 0, 3, 2, 2);
        Check.numbersDue(x, "deathOf(6, 1, ?)", 30, 7, 0, 2, NOTHING);
        Check.promise(14, "3 how many could have caused it: from none to 7");
        StoryCoroner y = Check.book(8, 0, "die(7, 9)");
        for (int k = 0; k < 7; k++) {
            Check.due(y, "deathOf(7, 0, 3)", k);
            Check.run(y, "motive(" + k + ", 7, 1)");
        }
        Check.due(y, "deathOf(7, 0, 3)", 7);
    }

    private static void deathOfErrors() {
        StoryCoroner x = told();
        Check.promise(14, "NONE if there is no such character");
        Check.due(new StoryCoroner(), "deathOf(0, 0, 0)", NONE);
        Check.due(x, "deathOf(4, 0, 0)", NONE);
        Check.outside(x, "deathOf(?, 0, 0)", 0, 7, NONE);
        Check.promise(14, "NONE if there is no such death");
        Check.due(x, "deathOf(3, 0, 0)", NONE);
        Check.due(x, "deathOf(1, 1, 0)", NONE);
        Check.due(x, "deathOf(2, 1, 0)", NONE);
        Check.due(x, "deathOf(0, 3, 0)", NONE);
        Check.outside(x, "deathOf(0, ?, 0)", 0, 2, NONE);
        Check.promise(14, "BAD if there is no such what");
        Check.outside(x, "deathOf(0, 0, ?)", 0, 4, BAD);
        Check.promise(14, "NONE comes ahead of BAD");
        Check.outside(x, "deathOf(4, 0, ?)", 0, 4, NONE);
        Check.outside(x, "deathOf(0, 3, ?)", 0, 4, NONE);
        Check.outside(x, "deathOf(0, -1, ?)", 0, 4, NONE);
    }

    private static void authorOf() {
        StoryCoroner x = told();
        Check.promise(15, "0 if sworn, 1 how many chapters, 2 how many deaths are in them, 3 how many of these are solved");
        Check.numbersDue(x, "authorOf(0, ?)", 0, 0, 0, 0);
        Check.numbersDue(x, "authorOf(1, ?)", 0, 4, 3, 2);
        Check.numbersDue(x, "authorOf(2, ?)", 1, 1, 1, 0);
        Check.promise(15, "2 risings and the chapters in which one is dead are no deaths");
        Check.run(x, "write(11, 0); write(5, 0)");
        Check.numbersDue(x, "authorOf(0, ?)", 0, 2, 0, 0);
        Check.promise(15, "2 the deaths of a chapter by another author then are that one's");
        Check.run(x, "write(3, 2)");
        Check.numbersDue(x, "authorOf(1, ?)", 0, 3, 2, 1);
        Check.numbersDue(x, "authorOf(2, ?)", 1, 2, 2, 1);
    }

    private static void authorOfAtItsMost() {
        Check.promise(15, "1 up to 30 chapters, 2 and 3 up to 24 deaths, all of them solved");
        StoryCoroner x = Check.book(8, 4, "seat(0, 1)");
        for (int chapter = 1; chapter <= 30; chapter++) {
            Check.run(x, "write(" + chapter + ", 3)");
            Check.due(x, "authorOf(3, 1)", chapter);
        }
        for (int k = 0; k < 8; k++) {
            Check.run(x, "motive(" + (k + 1) % 8 + ", " + k + ", 9)");
            Check.run(x, "die(" + k + ", 1); rise(" + k + ", 2); die(" + k + ", 3); rise(" + k + ", 29); die(" + k + ", 30)");
        }
        Check.numbersDue(x, "authorOf(3, ?)", 0, 30, 24, 0);
        for (int k = 0; k < 8; k++) {
            String trial = "trial(" + (k + 1) % 8 + ", " + k + ", ";
            Check.run(x, trial + "0); " + trial + "1); " + trial + "2)");
        }
        Check.numbersDue(x, "authorOf(3, ?)", 0, 30, 24, 24);
        Check.numbersDue(x, "authorOf(0, ?)", 0, 0, 0, 0);
        Check.promise(15, "2 two deaths in one chapter are two");
        StoryCoroner y = Check.book(2, 1, "die(0, 9); die(1, 9); write(9, 0)");
        Check.numbersDue(y, "authorOf(0, ?)", 0, 1, 2, 0);
    }

    private static void authorOfErrors() {
        StoryCoroner x = told();
        Check.promise(15, "NONE if there is no such author");
        Check.due(new StoryCoroner(), "authorOf(0, 0)", NONE);
        Check.due(x, "authorOf(3, 0)", NONE);
        Check.due(x, "authorOf(-4, 1)", NONE);
        Check.outside(x, "authorOf(?, 1)", 0, 3, NONE);
        Check.outside(Check.book(0, 4), "authorOf(?, 1)", 0, 3, NONE);
        Check.promise(15, "BAD if there is no such what");
        Check.outside(x, "authorOf(0, ?)", 0, 3, BAD);
        Check.promise(15, "NONE comes ahead of BAD");
        Check.outside(x, "authorOf(3, ?)", 0, 3, NONE);
    }

    private static void pages() {
        StoryCoroner x = told();
        Check.promise(16, "returns the pages: of the one who has it against the other");
        Check.due(x, "pages(1, 0)", 5);
        Check.due(x, "pages(0, 1)", 2);
        Check.due(x, "pages(2, 0)", 9);
        Check.due(x, "pages(0, 2)", 4);
        Check.promise(16, "0 for none, as at first, and against oneself");
        Check.due(x, "pages(3, 0)", 0);
        Check.due(x, "pages(0, 3)", 0);
        for (int k = 0; k < 4; k++) {
            Check.due(x, "pages(" + k + ", " + k + ")", 0);
        }
        Check.promise(16, "NONE if there is no such character, for either");
        Check.due(new StoryCoroner(), "pages(0, 0)", NONE);
        Check.due(x, "pages(4, 0)", NONE);
        Check.due(x, "pages(0, 4)", NONE);
        Check.due(x, "pages(4, 4)", NONE);
        Check.due(x, "pages(-1, -1)", NONE);
        Check.outside(x, "pages(?, 0)", 0, 7, NONE);
        Check.outside(x, "pages(0, ?)", 0, 7, NONE);
        Check.outside(Check.book(8, 0), "pages(?, 7)", 0, 7, NONE);
        Check.outside(Check.book(8, 0), "pages(7, ?)", 0, 7, NONE);
    }

    /** From each chapter on the set of the dead is that of the pair, up to the next pair. */
    private static void deadDue(StoryCoroner x, int... chaptersAndSets) {
        int set = 0;
        for (int chapter = 1; chapter <= 30; chapter++) {
            for (int i = 0; i < chaptersAndSets.length; i += 2) {
                set = chaptersAndSets[i] == chapter ? chaptersAndSets[i + 1] : set;
            }
            Check.due(x, "dead(" + chapter + ")", set);
            Check.due(x, "deadAgain(" + chapter + ")", set);
        }
    }

    private static void deadAndAgain() {
        Check.promise(17, "the set of them, bit k for the character k");
        for (int k = 0; k < 8; k++) {
            StoryCoroner one = Check.book(8, 0, "die(" + k + ", 5)");
            Check.due(one, "dead(4)", 0);
            Check.due(one, "dead(5)", 1 << k);
            Check.due(one, "dead(30)", 1 << k);
        }
        Check.promise(18, "the same by a second way, chapter by chapter");
        for (int k = 0; k < 8; k++) {
            StoryCoroner one = Check.book(8, 0, "die(" + k + ", 5)");
            Check.due(one, "deadAgain(4)", 0);
            Check.due(one, "deadAgain(5)", 1 << k);
            Check.due(one, "deadAgain(30)", 1 << k);
        }
        Check.term("Deaths and risings", "dead if the latest of these up to this chapter, it included, is a death");
        deadDue(Check.book(1, 0));
        deadDue(Check.book(1, 0, "die(0, 1)"), 1, 1);
        deadDue(Check.book(1, 0, "die(0, 30)"), 30, 1);
        deadDue(Check.book(1, 0, "die(0, 1); rise(0, 2)"), 1, 1, 2, 0);
        deadDue(Check.book(1, 0, "die(0, 29); rise(0, 30)"), 29, 1, 30, 0);
        deadDue(Check.book(1, 0, "die(0, 1); rise(0, 30)"), 1, 1, 30, 0);
        deadDue(Check.book(1, 0, "die(0, 4); rise(0, 5); die(0, 6); rise(0, 7); die(0, 8); rise(0, 9)"),
            4, 1, 5, 0, 6, 1, 7, 0, 8, 1, 9, 0);
        Check.term("In doubt", "dead in the chapter of a death, and in that of a rising the character lives");
        deadDue(Check.book(2, 0, "die(0, 9); rise(0, 12); die(1, 12)"), 9, 1, 12, 2);
    }

    private static void deadTogether() {
        Check.promise(17, "all of them together, from nobody to all 8");
        StoryCoroner x = Check.book(8, 0);
        for (int k = 0; k < 8; k++) {
            Check.run(x, "die(" + k + ", " + (k + 1) + ")");
        }
        deadDue(x, 1, 1, 2, 3, 3, 7, 4, 15, 5, 31, 6, 63, 7, 127, 8, 255);
        Check.promise(18, "by deaths that come and risings that take away");
        StoryCoroner y = Check.book(8, 0);
        for (int k = 0; k < 8; k++) {
            Check.run(y, "die(" + k + ", 3); rise(" + k + ", " + (10 + k) + ")");
        }
        deadDue(y, 3, 255, 10, 254, 11, 252, 12, 248, 13, 240, 14, 224, 15, 192, 16, 128, 17, 0);
        Check.promise(18, "what was struck out is not there by either way");
        StoryCoroner z = Check.book(2, 0, "die(0, 4); rise(0, 8); die(0, 12); die(1, 5); strike(0); strike(0); strike(1)");
        deadDue(z, 4, 1);
    }

    private static void deadErrors() {
        Check.promise(17, "BAD if there is no such chapter");
        StoryCoroner x = told();
        Check.outside(x, "dead(?)", 1, 30, BAD);
        Check.outside(new StoryCoroner(), "dead(?)", 1, 30, BAD);
        Check.due(new StoryCoroner(), "dead(1)", 0);
        Check.due(new StoryCoroner(), "dead(30)", 0);
        Check.promise(18, "BAD if there is no such chapter");
        Check.outside(x, "deadAgain(?)", 1, 30, BAD);
        Check.outside(new StoryCoroner(), "deadAgain(?)", 1, 30, BAD);
        Check.due(new StoryCoroner(), "deadAgain(1)", 0);
        Check.due(new StoryCoroner(), "deadAgain(30)", 0);
    }

    private static void darkestDue(StoryCoroner x, int chapter, int many) {
        Check.due(x, "darkest(0)", chapter);
        Check.due(x, "darkest(1)", many);
    }

    private static void darkest() {
        Check.promise(19, "the chapter in which the most are dead, and how many");
        darkestDue(Check.book(1, 0, "die(0, 4)"), 4, 1);
        darkestDue(Check.book(3, 0, "die(0, 4); rise(0, 9); die(1, 8); die(2, 20)"), 8, 2);
        darkestDue(Check.book(3, 0, "die(0, 4); rise(0, 8); die(1, 8); die(2, 20)"), 20, 2);
        Check.promise(19, "without characters or deaths it is the first chapter, with nobody");
        darkestDue(new StoryCoroner(), 1, 0);
        darkestDue(Check.book(8, 4), 1, 0);
        Check.promise(19, "of several the first one");
        darkestDue(Check.book(2, 0, "die(0, 2); rise(0, 4); die(1, 6)"), 2, 1);
        darkestDue(Check.book(2, 0, "die(0, 2); rise(0, 4); die(1, 1)"), 2, 2);
        darkestDue(Check.book(3, 0, "die(0, 10); die(1, 10); rise(0, 12); die(2, 30)"), 10, 2);
        Check.promise(19, "BAD if isMany is neither");
        Check.outside(told(), "darkest(?)", 0, 1, BAD);
        Check.outside(new StoryCoroner(), "darkest(?)", 0, 1, BAD);
    }

    private static void darkestOfEachChapter() {
        Check.promise(19, "from the first chapter to the last, with up to 8");
        for (int chapter = 1; chapter <= 30; chapter++) {
            darkestDue(Check.book(1, 0, "die(0, " + chapter + ")"), chapter, 1);
            StoryCoroner x = Check.book(8, 0);
            for (int k = 0; k < 8; k++) {
                Check.run(x, "die(" + k + ", " + Math.max(1, chapter - k) + ")");
            }
            darkestDue(x, chapter, 8);
        }
    }

    private static void rankedErrors() {
        Check.promise(24, "BAD if there is no such kind");
        Check.outside(told(), "ranked(?, 0)", 0, 3, BAD);
        Check.promise(24, "NONE if there is no such place");
        for (int kind = 0; kind < 4; kind++) {
            Check.due(new StoryCoroner(), "ranked(" + kind + ", 0)", NONE);
            StoryCoroner x = Check.book(3, 2);
            Check.due(x, "ranked(" + kind + ", " + (kind == 3 ? 1 : 2) + ")", kind == 3 ? 1 : 2);
            Check.due(x, "ranked(" + kind + ", " + (kind == 3 ? 2 : 3) + ")", NONE);
            Check.outside(x, "ranked(" + kind + ", ?)", 0, 7, NONE);
            Check.outside(Check.book(8, 4), "ranked(" + kind + ", ?)", 0, kind == 3 ? 3 : 7, NONE);
        }
        Check.due(Check.book(0, 4), "ranked(0, 0)", NONE);
        Check.due(Check.book(8, 0), "ranked(3, 0)", NONE);
        Check.promise(24, "BAD comes ahead of NONE");
        Check.outside(told(), "ranked(?, 9)", 0, 3, BAD);
        Check.outside(new StoryCoroner(), "ranked(?, -1)", 0, 3, BAD);
        Check.promise(24, "of several the lowest first: all alike");
        for (int kind = 0; kind < 4; kind++) {
            Check.orderDue(Check.book(8, 4), kind, kind == 3 ? "0123" : "01234567");
        }
    }

    private static void rankedByDeaths() {
        Check.promise(24, "0 by how often they died, the most first");
        StoryCoroner x = Check.book(8, 0, "die(7, 30); die(5, 1); rise(5, 2); die(5, 3); die(3, 8); rise(3, 9); die(3, 10);"
            + "rise(3, 11); die(3, 12)");
        Check.orderDue(x, 0, "35701246");
        Check.promise(24, "0 of several the lowest first");
        Check.run(x, "die(6, 2)");
        Check.orderDue(x, 0, "35670124");
        Check.run(x, "rise(6, 3)");
        Check.orderDue(x, 0, "35670124");
        Check.run(x, "die(6, 4)");
        Check.orderDue(x, 0, "35670124");
        Check.run(x, "strike(5)");
        Check.orderDue(x, 0, "36570124");
    }

    private static void rankedByChapters() {
        Check.promise(24, "1 by how many chapters they live, the fewest first");
        StoryCoroner x = Check.book(8, 0, "die(7, 1); die(2, 30); die(4, 1); rise(4, 30); die(0, 29)");
        Check.orderDue(x, 1, "74021356");
        Check.promise(24, "1 of several the lowest first");
        Check.run(x, "die(6, 2)");
        Check.orderDue(x, 1, "74602135");
        Check.run(x, "die(1, 3); rise(1, 5)");
        Check.orderDue(x, 1, "74601235");
        Check.promise(24, "1 not by how often they died");
        Check.run(x, "die(5, 1); rise(5, 2); die(5, 3); rise(5, 4); die(5, 5); rise(5, 6)");
        Check.orderDue(x, 1, "74650123");
    }

    private static void rankedByCulprits() {
        Check.promise(24, "2 by of how many deaths they are the culprit, the most first");
        StoryCoroner x = Check.book(8, 0, "die(0, 4); rise(0, 5); die(0, 6); rise(0, 7); die(0, 8); die(1, 9); die(2, 9)");
        Check.run(x, "motive(7, 0, 1); motive(4, 0, 1); motive(4, 1, 1); motive(5, 2, 1); motive(6, 2, 9); seat(0, 1)");
        Check.orderDue(x, 2, "01234567");
        Check.run(x, "trial(7, 0, 0)");
        Check.orderDue(x, 2, "70123456");
        Check.run(x, "trial(4, 0, 2); trial(4, 1, 0)");
        Check.orderDue(x, 2, "47012356");
        Check.promise(24, "2 of several the lowest first");
        Check.run(x, "trial(7, 0, 1)");
        Check.orderDue(x, 2, "47012356");
        Check.run(x, "trial(5, 2, 0)");
        Check.orderDue(x, 2, "47501236");
    }

    private static void rankedAuthors() {
        Check.promise(24, "3 authors by how many deaths are in their chapters, the most first");
        StoryCoroner x = Check.book(8, 4, "die(0, 3); die(1, 3); die(2, 4); write(4, 3); write(5, 1); write(6, 1); write(7, 1)");
        Check.orderDue(x, 3, "3012");
        Check.run(x, "write(3, 2)");
        Check.orderDue(x, 3, "2301");
        Check.promise(24, "3 of several the lowest first");
        Check.run(x, "die(3, 5)");
        Check.orderDue(x, 3, "2130");
        Check.run(x, "die(4, 7)");
        Check.orderDue(x, 3, "1230");
    }
}
