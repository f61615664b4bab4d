/** Promises 13 to 19 and 24: what there is, and orders. */
public final class BookTest {
    public static void main(String[] args) {
        characterOf();
        deathOf();
        authorOf();
        pages();
        dead();
        darkest();
        rankedErrors();
        rankedCharacters();
        rankedAuthors();
        Check.close("BookTest");
    }

    /** Character 0 dies thrice, of which 1 and 2 are the culprits of one each. */
    private static StoryCoroner told() {
        StoryCoroner x = Check.book(4, 3);
        x.die(0, 3);
        x.rise(0, 7);
        x.die(0, 10);
        x.rise(0, 11);
        x.die(0, 29);
        x.die(1, 20);
        x.rise(1, 21);
        x.die(2, 30);
        x.motive(1, 0, 5);
        x.motive(2, 0, 9);
        x.motive(0, 2, 4);
        x.motive(0, 1, 2);
        x.seat(0, 2);
        x.trial(1, 0, 0);
        x.trial(2, 0, 2);
        x.trial(0, 1, 0);
        x.write(3, 1);
        x.write(4, 1);
        x.write(30, 2);
        x.write(20, 1);
        x.write(10, 1);
        return x;
    }

    private static void characterOf() {
        StoryCoroner x = told();
        Check.due("characterOf(4, 0)", x.characterOf(4, 0), StoryCoroner.NONE);
        Check.due("characterOf(-1, 9)", x.characterOf(-1, 9), StoryCoroner.NONE);
        Check.due("characterOf(0, 7)", x.characterOf(0, 7), StoryCoroner.BAD);
        Check.due("characterOf(0, -1)", x.characterOf(0, -1), StoryCoroner.BAD);
        numbers(x, 0, 3, 2, 30 - 4 - 1 - 2, 2, 1, 6, 14);
        numbers(x, 1, 1, 1, 29, 1, 1, 5, 2);
        numbers(x, 2, 1, 0, 29, 0, 1, 9, 4);
        numbers(x, 3, 0, 0, 30, 0, 0, 0, 0);
    }

    private static void numbers(StoryCoroner x, int character, int... want) {
        for (int what = 0; what < 7; what++) {
            Check.due("characterOf(" + character + ", " + what + ")", x.characterOf(character, what), want[what]);
        }
    }

    private static void deathOf() {
        StoryCoroner x = told();
        Check.due("deathOf(4, 0, 0)", x.deathOf(4, 0, 0), StoryCoroner.NONE);
        Check.due("deathOf(0, 3, 9)", x.deathOf(0, 3, 9), StoryCoroner.NONE);
        Check.due("deathOf(0, -1, 0)", x.deathOf(0, -1, 0), StoryCoroner.NONE);
        Check.due("deathOf(3, 0, 0)", x.deathOf(3, 0, 0), StoryCoroner.NONE);
        Check.due("deathOf(0, 0, 5)", x.deathOf(0, 0, 5), StoryCoroner.BAD);
        Check.due("deathOf(0, 0, -1)", x.deathOf(0, 0, -1), StoryCoroner.BAD);
        death(x, 0, 0, 3, 1, 1, 2, 7);
        death(x, 0, 1, 10, StoryCoroner.NOTHING, 1, 2, 11);
        death(x, 0, 2, 29, 2, StoryCoroner.NOTHING, 2, StoryCoroner.NOTHING);
        death(x, 1, 0, 20, 0, 1, 1, 21);
        death(x, 2, 0, 30, StoryCoroner.NOTHING, 2, 0, StoryCoroner.NOTHING);
        x.die(1, 28);
        Check.due("one is dead by then", x.deathOf(0, 2, 3), 1);
    }

    private static void death(StoryCoroner x, int character, int number, int... want) {
        for (int what = 0; what < 5; what++) {
            String call = "deathOf(" + character + ", " + number + ", " + what + ")";
            Check.due(call, x.deathOf(character, number, what), want[what]);
        }
    }

    private static void authorOf() {
        StoryCoroner x = told();
        Check.due("authorOf(3, 0)", x.authorOf(3, 0), StoryCoroner.NONE);
        Check.due("authorOf(-1, 4)", x.authorOf(-1, 4), StoryCoroner.NONE);
        Check.due("authorOf(0, 4)", x.authorOf(0, 4), StoryCoroner.BAD);
        Check.due("authorOf(0, -1)", x.authorOf(0, -1), StoryCoroner.BAD);
        x.swear(2, 1);
        writer(x, 0, 0, 0, 0, 0);
        writer(x, 1, 0, 4, 3, 2);
        writer(x, 2, 1, 1, 1, 0);
    }

    private static void writer(StoryCoroner x, int author, int... want) {
        for (int what = 0; what < 4; what++) {
            Check.due("authorOf(" + author + ", " + what + ")", x.authorOf(author, what), want[what]);
        }
    }

    private static void pages() {
        StoryCoroner x = told();
        Check.due("pages(4, 0)", x.pages(4, 0), StoryCoroner.NONE);
        Check.due("pages(0, 4)", x.pages(0, 4), StoryCoroner.NONE);
        Check.due("pages(-1, -1)", x.pages(-1, -1), StoryCoroner.NONE);
        Check.due("pages(1, 0)", x.pages(1, 0), 5);
        Check.due("pages(0, 1)", x.pages(0, 1), 2);
        Check.due("pages(3, 3)", x.pages(3, 3), 0);
    }

    private static void dead() {
        StoryCoroner x = told();
        deadIn(x, 0, StoryCoroner.BAD);
        deadIn(x, -1, StoryCoroner.BAD);
        deadIn(x, 31, StoryCoroner.BAD);
        deadIn(x, Integer.MAX_VALUE, StoryCoroner.BAD);
        deadIn(x, 1, 0);
        deadIn(x, 2, 0);
        deadIn(x, 3, 1);
        deadIn(x, 6, 1);
        deadIn(x, 7, 0);
        deadIn(x, 10, 1);
        deadIn(x, 11, 0);
        deadIn(x, 20, 2);
        deadIn(x, 21, 0);
        deadIn(x, 29, 1);
        deadIn(x, 30, 5);
        x.die(3, 1);
        deadIn(x, 1, 8);
        deadIn(x, 30, 13);
        StoryCoroner all = Check.book(8, 0);
        for (int character = 0; character < 8; character++) {
            all.die(character, 30);
        }
        deadIn(all, 29, 0);
        deadIn(all, 30, 255);
    }

    private static void deadIn(StoryCoroner x, int chapter, int want) {
        Check.due("dead(" + chapter + ")", x.dead(chapter), want);
        Check.due("deadAgain(" + chapter + ")", x.deadAgain(chapter), want);
    }

    private static void darkest() {
        StoryCoroner x = Check.book(3, 0);
        Check.due("darkest(2)", x.darkest(2), StoryCoroner.BAD);
        Check.due("darkest(-1)", x.darkest(-1), StoryCoroner.BAD);
        Check.due("darkest(0) without deaths", x.darkest(0), 1);
        Check.due("darkest(1) without deaths", x.darkest(1), 0);
        x.die(0, 4);
        Check.due("darkest(0) with one death", x.darkest(0), 4);
        Check.due("darkest(1) with one death", x.darkest(1), 1);
        x.rise(0, 9);
        x.die(1, 8);
        Check.due("darkest(0)", x.darkest(0), 8);
        Check.due("darkest(1)", x.darkest(1), 2);
        x.die(2, 10);
        Check.due("the first of several", x.darkest(0), 8);
        x.die(0, 30);
        Check.due("the last chapter", x.darkest(0), 30);
        Check.due("how many there", x.darkest(1), 3);
    }

    private static void rankedErrors() {
        StoryCoroner x = Check.book(2, 1);
        Check.due("ranked(-1, 0)", x.ranked(-1, 0), StoryCoroner.BAD);
        Check.due("ranked(4, 9)", x.ranked(4, 9), StoryCoroner.BAD);
        for (int kind = 0; kind < 4; kind++) {
            Check.due("ranked(kind, -1)", x.ranked(kind, -1), StoryCoroner.NONE);
            Check.due("ranked(kind, 2)", x.ranked(kind, 2), StoryCoroner.NONE);
            Check.due("alike, by number", Check.order(x, kind), kind == 3 ? "0" : "01");
        }
    }

    private static void rankedCharacters() {
        StoryCoroner x = told();
        x.character();
        Check.due("by deaths", Check.order(x, 0), "01234");
        Check.due("by chapters", Check.order(x, 1), "01234");
        Check.due("by culprits", Check.order(x, 2), "01234");
        x.die(4, 1);
        Check.due("by deaths", Check.order(x, 0), "01243");
        Check.due("by chapters", Check.order(x, 1), "40123");
        x.trial(2, 0, 1);
        Check.due("by culprits", Check.order(x, 2), "20134");
        Check.due("ranked(0, 5)", x.ranked(0, 5), StoryCoroner.NONE);
    }

    private static void rankedAuthors() {
        StoryCoroner x = told();
        x.author();
        Check.due("authors", Check.order(x, 3), "1203");
        x.write(29, 3);
        x.write(10, 3);
        Check.due("authors", Check.order(x, 3), "1320");
        Check.due("ranked(3, 4)", x.ranked(3, 4), StoryCoroner.NONE);
    }
}
