/** Promises 1 to 9: a new object, characters and authors. */
public final class CharactersTest {
    public static void main(String[] args) {
        newObject();
        character();
        author();
        die();
        rise();
        turnsAreLimited();
        strike();
        strikeTakesTheVerdict();
        write();
        swear();
        motive();
        Check.close("CharactersTest");
    }

    private static void newObject() {
        StoryCoroner x = new StoryCoroner();
        for (int what = 0; what <= 10; what++) {
            Check.due("new account(" + what + ")", x.account(what), 0);
        }
        Check.due("new line", Check.line(x), "");
        Check.due("new undo", x.undo(), StoryCoroner.NOTHING);
        Check.due("new restore", x.restore(), StoryCoroner.NOTHING);
        Check.due("new dead(30)", x.dead(30), 0);
        Check.due("new tellChapter", x.tellChapter(30), 3);
        Check.due("new line of a chapter", Check.line(x), "30:");
        x.tellJury();
        Check.due("new line of the jury", Check.line(x), ".......");
    }

    private static void character() {
        StoryCoroner x = new StoryCoroner();
        for (int i = 0; i < 8; i++) {
            Check.due("character", x.character(), i);
            Check.due("lives at first", x.characterOf(i, 2), 30);
        }
        Check.refused(x, "ninth character", x.character(), 1, 8);
        Check.due("characters", x.account(0), 8);
    }

    private static void author() {
        StoryCoroner x = new StoryCoroner();
        for (int i = 0; i < 4; i++) {
            Check.due("author", x.author(), i);
            Check.due("not sworn at first", x.authorOf(i, 0), 0);
            Check.due("wrote nothing at first", x.authorOf(i, 1), 0);
        }
        Check.refused(x, "fifth author", x.author(), 1, 4);
        Check.due("authors", x.account(1), 4);
    }

    private static void die() {
        StoryCoroner x = Check.book(2, 0);
        Check.due("die(2, 5)", x.die(2, 5), StoryCoroner.NONE);
        Check.due("die(-1, 5)", x.die(-1, 5), StoryCoroner.NONE);
        Check.due("die(2, 0)", x.die(2, 0), StoryCoroner.NONE);
        Check.due("die(0, 0)", x.die(0, 0), StoryCoroner.BAD);
        Check.due("die(0, 31)", x.die(0, 31), StoryCoroner.BAD);
        Check.due("die(0, MIN)", x.die(0, Integer.MIN_VALUE), StoryCoroner.BAD);
        Check.due("die(0, 5)", x.die(0, 5), 1);
        Check.due("die(0, 0) of a dead one", x.die(0, 0), StoryCoroner.BAD);
        Check.refused(x, "die(0, 5) again", x.die(0, 5), 3, 1);
        Check.refused(x, "die(0, 9) of a dead one", x.die(0, 9), 3, 1);
        x.rise(0, 7);
        Check.refused(x, "die(0, 6)", x.die(0, 6), 2, 7);
        Check.refused(x, "die(0, 7)", x.die(0, 7), 2, 7);
        Check.due("die(0, 8)", x.die(0, 8), 2);
        Check.refused(x, "die(0, 1) of one dead twice", x.die(0, 1), 3, 2);
        Check.due("die(1, 30)", x.die(1, 30), 1);
        Check.due("the other one", x.characterOf(0, 0), 2);
    }

    private static void rise() {
        StoryCoroner x = Check.book(1, 0);
        Check.due("rise(1, 5)", x.rise(1, 5), StoryCoroner.NONE);
        Check.due("rise(-1, 0)", x.rise(-1, 0), StoryCoroner.NONE);
        Check.due("rise(0, 0)", x.rise(0, 0), StoryCoroner.BAD);
        Check.due("rise(0, 31)", x.rise(0, 31), StoryCoroner.BAD);
        Check.refused(x, "rise of one who never died", x.rise(0, 5), 4, 0);
        x.die(0, 3);
        Check.refused(x, "rise(0, 3)", x.rise(0, 3), 2, 3);
        Check.refused(x, "rise(0, 1)", x.rise(0, 1), 2, 3);
        Check.due("rise(0, 4)", x.rise(0, 4), 1);
        Check.refused(x, "rise of one who lives", x.rise(0, 2), 4, 1);
        x.die(0, 10);
        Check.due("rise(0, 30)", x.rise(0, 30), 20);
    }

    private static void turnsAreLimited() {
        StoryCoroner x = Check.book(1, 0);
        for (int i = 0; i < 3; i++) {
            Check.due("die", x.die(0, 4 * i + 1), i + 1);
            Check.due("rise", x.rise(0, 4 * i + 3), 2);
        }
        Check.refused(x, "seventh, earlier", x.die(0, 11), 2, 11);
        Check.refused(x, "seventh", x.die(0, 12), 1, 6);
        Check.refused(x, "rise when all turns are gone", x.rise(0, 12), 4, 3);
        Check.due("strike", x.strike(0), 11);
        Check.due("rise again", x.rise(0, 20), 11);
    }

    private static void strike() {
        StoryCoroner x = Check.book(2, 0);
        Check.due("strike(2)", x.strike(2), StoryCoroner.NONE);
        Check.due("strike(-1)", x.strike(-1), StoryCoroner.NONE);
        Check.refused(x, "strike of nothing", x.strike(1), 4, 0);
        x.die(0, 6);
        x.rise(0, 8);
        Check.due("strike a rising", x.strike(0), 8);
        Check.due("dead again", x.dead(8), 1);
        Check.due("strike a death", x.strike(0), 6);
        Check.due("lives again", x.dead(30), 0);
        Check.refused(x, "strike when all are struck", x.strike(0), 4, 0);
        Check.due("an earlier death after it", x.die(0, 2), 1);
    }

    private static void strikeTakesTheVerdict() {
        StoryCoroner x = Check.book(2, 0);
        x.motive(1, 0, 9);
        x.seat(0, 1);
        x.die(0, 6);
        x.rise(0, 8);
        Check.due("trial", x.trial(1, 0, 0), 1);
        Check.due("strike a rising", x.strike(0), 8);
        Check.due("the verdict stays", x.deathOf(0, 0, 1), 1);
        Check.due("strike the death", x.strike(0), 6);
        Check.due("no deaths are solved", x.account(4), 0);
        x.die(0, 6);
        Check.due("the new death is not solved", x.deathOf(0, 0, 1), StoryCoroner.NOTHING);
        Check.due("culprit of none", x.characterOf(1, 4), 0);
        laterVerdicts();
    }

    private static void laterVerdicts() {
        StoryCoroner x = Check.book(2, 0);
        Check.read(x, "m10=9;j0=1;d0@2;r0@4;d0@6;r0@8;d0@10;t100;t101;t102");
        for (int left = 2; left >= 0; left--) {
            x.strike(0);
            Check.due("solved deaths", x.account(4), left);
            Check.due("culprit of", x.characterOf(1, 4), left);
            x.strike(0);
        }
        Check.read(x, "d0@2;r0@4;d0@6;r0@8;d0@10");
        Check.due("none of the new ones is solved", x.account(4), 0);
    }

    private static void write() {
        StoryCoroner x = Check.book(0, 2);
        Check.due("write(1, 2)", x.write(1, 2), StoryCoroner.NONE);
        Check.due("write(1, -4)", x.write(1, -4), StoryCoroner.NONE);
        Check.due("write(0, 2)", x.write(0, 2), StoryCoroner.NONE);
        Check.due("write(0, 1)", x.write(0, 1), StoryCoroner.BAD);
        Check.due("write(31, 1)", x.write(31, 1), StoryCoroner.BAD);
        Check.due("write(30, 1)", x.write(30, 1), StoryCoroner.NOTHING);
        Check.refused(x, "write(30, 1) again", x.write(30, 1), 5, 1);
        Check.due("write(30, 0)", x.write(30, 0), 1);
        Check.due("write(30, 1)", x.write(30, 1), 0);
        Check.due("write(1, 0)", x.write(1, 0), StoryCoroner.NOTHING);
        Check.due("chapters", x.account(7), 2);
    }

    private static void swear() {
        StoryCoroner x = Check.book(0, 3);
        Check.due("swear(3, 1)", x.swear(3, 1), StoryCoroner.NONE);
        Check.due("swear(-1, 2)", x.swear(-1, 2), StoryCoroner.NONE);
        Check.due("swear(0, 2)", x.swear(0, 2), StoryCoroner.BAD);
        Check.due("swear(0, -1)", x.swear(0, -1), StoryCoroner.BAD);
        Check.refused(x, "swear(0, 0)", x.swear(0, 0), 5, 0);
        Check.due("swear(0, 1)", x.swear(0, 1), 1);
        Check.refused(x, "swear(0, 1) again", x.swear(0, 1), 5, 1);
        Check.due("swear(2, 1)", x.swear(2, 1), 2);
        Check.due("swear(0, 0)", x.swear(0, 0), 1);
    }

    private static void motive() {
        StoryCoroner x = Check.book(2, 0);
        Check.due("motive(2, 0, 1)", x.motive(2, 0, 1), StoryCoroner.NONE);
        Check.due("motive(0, 2, 1)", x.motive(0, 2, 1), StoryCoroner.NONE);
        Check.due("motive(0, -1, 10)", x.motive(0, -1, 10), StoryCoroner.NONE);
        Check.due("motive(0, 1, 10)", x.motive(0, 1, 10), StoryCoroner.BAD);
        Check.due("motive(0, 1, -1)", x.motive(0, 1, -1), StoryCoroner.BAD);
        Check.due("motive(1, 1, 10)", x.motive(1, 1, 10), StoryCoroner.BAD);
        Check.refused(x, "motive(1, 1, 0)", x.motive(1, 1, 0), 6, 1);
        Check.refused(x, "motive(0, 1, 0)", x.motive(0, 1, 0), 5, 0);
        Check.due("motive(0, 1, 9)", x.motive(0, 1, 9), 0);
        Check.refused(x, "motive(0, 1, 9) again", x.motive(0, 1, 9), 5, 9);
        Check.due("motive(0, 1, 0)", x.motive(0, 1, 0), 9);
        Check.due("motive(0, 1, 1)", x.motive(0, 1, 1), 0);
        Check.due("not the other way round", x.pages(1, 0), 0);
    }
}
