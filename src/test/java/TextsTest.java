/** Promises 25 to 34: lines, texts, reasons, accounts. */
public final class TextsTest {
    public static void main(String[] args) {
        tellCharacter();
        tellChapter();
        tellJury();
        sign();
        append();
        readEveryCommand();
        readFaults();
        readNumbers();
        readIsAllOrNone();
        readTakesNothingForAnAnswer();
        readOfAFullText();
        refusal();
        account();
        isWell();
        share();
        Check.close("TextsTest");
    }

    private static void tellCharacter() {
        StoryCoroner x = Check.book(3, 0);
        Check.due("tellCharacter(3)", x.tellCharacter(3), StoryCoroner.NONE);
        Check.due("tellCharacter(-1)", x.tellCharacter(-1), StoryCoroner.NONE);
        Check.due("no line", Check.line(x), "");
        Check.due("tellCharacter(2)", x.tellCharacter(2), 2);
        Check.due("line", Check.line(x), "2:");
        Check.read(x, "d2@5;r2@9;d2@12;m02=9;m12=9;j0=1;t020");
        Check.due("tellCharacter(2)", x.tellCharacter(2), 11);
        Check.due("line", Check.line(x), "2:+5=0^9+12");
        Check.read(x, "r2@13;d2@29;r2@30;t121;t022");
        Check.due("tellCharacter(2)", x.tellCharacter(2), 24);
        Check.due("the longest line", Check.line(x), "2:+5=0^9+12=1^13+29=0^30");
        x.tellCharacter(3);
        Check.due("an error leaves the line", Check.line(x), "2:+5=0^9+12=1^13+29=0^30");
    }

    private static void tellChapter() {
        StoryCoroner x = Check.book(8, 2);
        Check.due("tellChapter(0)", x.tellChapter(0), StoryCoroner.BAD);
        Check.due("tellChapter(31)", x.tellChapter(31), StoryCoroner.BAD);
        x.die(0, 12);
        x.die(2, 10);
        x.rise(0, 14);
        x.tellChapter(12);
        Check.due("without an author", Check.line(x), "12:0,2");
        x.write(12, 1);
        x.tellChapter(12);
        Check.due("with an author", Check.line(x), "12@1:0,2");
        x.swear(1, 1);
        Check.due("length", x.tellChapter(12), 9);
        Check.due("with a sworn one", Check.line(x), "12@1!:0,2");
        x.tellChapter(14);
        Check.due("with one of them", Check.line(x), "14:2");
        x.tellChapter(9);
        Check.due("with nobody", Check.line(x), "9:");
        x.tellChapter(10);
        Check.due("two digits", Check.line(x), "10:2");
        for (int character = 0; character < 8; character++) {
            x.die(character, 30);
        }
        x.write(30, 1);
        Check.due("length", x.tellChapter(30), 21);
        Check.due("with all", Check.line(x), "30@1!:0,1,2,3,4,5,6,7");
        x.tellChapter(31);
        Check.due("an error leaves the line", Check.line(x), "30@1!:0,1,2,3,4,5,6,7");
    }

    private static void tellJury() {
        StoryCoroner x = new StoryCoroner();
        x.seat(0, 5);
        x.seat(2, 9);
        x.seat(3, 3);
        Check.due("length", x.tellJury(), 7);
        Check.due("line", Check.line(x), "5.93...");
        x.seat(6, 1);
        x.leave(0);
        Check.due("the line stays until it is told", Check.line(x), "5.93...");
        x.tellJury();
        Check.due("line", Check.line(x), "..93..1");
    }

    private static void sign() {
        StoryCoroner x = Check.book(1, 0);
        Check.due("sign(0) at first", x.sign(0), StoryCoroner.NONE);
        x.tellJury();
        Check.due("sign(6)", x.sign(6), '.');
        Check.due("sign(7)", x.sign(7), StoryCoroner.NONE);
        Check.due("sign(-1)", x.sign(-1), StoryCoroner.NONE);
        x.tellCharacter(0);
        Check.due("sign(0)", x.sign(0), '0');
        Check.due("sign(1)", x.sign(1), ':');
        Check.due("a shorter line", x.sign(2), StoryCoroner.NONE);
    }

    private static void append() {
        StoryCoroner x = new StoryCoroner();
        Check.due("append(31)", x.append(31), StoryCoroner.BAD);
        Check.due("append(127)", x.append(127), StoryCoroner.BAD);
        Check.due("append(-1)", x.append(-1), StoryCoroner.BAD);
        Check.due("append(32)", x.append(32), 1);
        Check.due("append(126)", x.append(126), 2);
        for (int i = 3; i <= 70; i++) {
            Check.due("append", x.append('c'), i);
        }
        Check.due("append to a full text", x.append('c'), StoryCoroner.BAD);
        Check.due("its length", x.account(9), 70);
        x.read();
        Check.due("append after read", x.append('c'), 1);
    }

    private static void readEveryCommand() {
        StoryCoroner x = new StoryCoroner();
        Check.due("c, a", Check.read(x, "c;c;a"), 3);
        Check.due("characters", x.account(0), 2);
        Check.due("authors", x.account(1), 1);
        Check.due("d, r, d", Check.read(x, "d0@05;r0@7;d0@30"), 3);
        x.tellCharacter(0);
        Check.due("line", Check.line(x), "0:+5^7+30");
        Check.due("x", Check.read(x, "x0"), 1);
        x.tellCharacter(0);
        Check.due("line", Check.line(x), "0:+5^7");
        Check.due("w, o", Check.read(x, "w05@0;o0+"), 2);
        x.tellChapter(5);
        Check.due("line", Check.line(x), "5@0!:0");
        Check.due("o", Check.read(x, "o0-"), 1);
        Check.due("sworn", x.account(8), 0);
        Check.due("m", Check.read(x, "m10=4"), 1);
        Check.due("pages", x.pages(1, 0), 4);
        Check.due("j", Check.read(x, "j6=4;j3=9"), 2);
        x.tellJury();
        Check.due("line", Check.line(x), "...9..4");
        Check.due("t, not guilty", Check.read(x, "t100"), 1);
        Check.due("solved", x.account(4), 0);
        Check.due("j, t", Check.read(x, "j3-;t100"), 2);
        Check.due("culprit", x.deathOf(0, 0, 1), 1);
        Check.due("m to 0", Check.read(x, "m10=0"), 1);
        Check.due("pages", x.pages(1, 0), 0);
        Check.due("nothing was refused", x.refusal(0), StoryCoroner.NOTHING);
    }

    private static void readFaults() {
        String[] wrong = {
            "", "|", ";", "|;", "c;", "c;|", "cc", "c|c", "c;;c", "c;|;c", "e", "|e", " c", "| c",
            "a0", "a|0", "d", "d|", "d0", "d0|", "d@", "d|@", "d0@", "d0@|", "d0@;", "d0@|;",
            "d0@123", "d0@12|3", "d01@2", "d0|1@2", "r0+5", "r0|+5", "r0@5 ", "r0@5| ",
            "x", "x|", "x00", "x0|0", "xc", "x|c", "w", "w|", "w1", "w1|", "w12", "w12|",
            "w123@0", "w12|3@0", "w12@", "w12@|", "w12@00", "w12@0|0", "w@0", "w|@0",
            "o0", "o0|", "o0=", "o0|=", "o0+-", "o0+|-", "o+", "o|+", "m0=1", "m0|=1", "m01=", "m01=|",
            "m01=10", "m01=1|0", "m011", "m01|1", "j0", "j0|", "j0=", "j0=|", "j0+", "j0|+",
            "j0=12", "j0=1|2", "j0--", "j0-|-", "t00", "t00|", "t0000", "t000|0", "t00;c", "t00|;c",
            "c;a;t000;d0@4;x", "c;a;t000;d0@4;x|", "C", "|C", "c;d0@4;r0@/", "c;d0@4;r0@|/",
            "c;d0@4;r0@:", "c;d0@4;r0@|:", "~", "|~",
        };
        for (int i = 0; i < wrong.length; i += 2) {
            StoryCoroner x = new StoryCoroner();
            Check.due("read of " + wrong[i], Check.read(x, wrong[i]), -100 - wrong[i + 1].indexOf('|'));
            Check.due("the text is empty then", x.account(9), 0);
            Check.due("nothing came", x.account(0) + x.account(1) + x.account(10), 0);
            Check.due("nothing was refused", x.refusal(0), StoryCoroner.NOTHING);
        }
    }

    private static void readNumbers() {
        StoryCoroner x = Check.book(1, 1);
        Check.due("chapter 0", Check.read(x, "d0@0"), StoryCoroner.BAD);
        Check.due("chapter 00", Check.read(x, "w00@0"), StoryCoroner.BAD);
        Check.due("chapter 31", Check.read(x, "d0@31"), StoryCoroner.BAD);
        Check.due("chapter 99", Check.read(x, "r0@99"), StoryCoroner.BAD);
        Check.due("no such character", Check.read(x, "d9@4"), StoryCoroner.BAD);
        Check.due("no such seat", Check.read(x, "j7-"), StoryCoroner.BAD);
        Check.due("no such seat", Check.read(x, "j8=1"), StoryCoroner.BAD);
        Check.due("severity 0", Check.read(x, "j0=0"), StoryCoroner.BAD);
        Check.due("no such author", Check.read(x, "o1+"), StoryCoroner.BAD);
        Check.due("no such death", Check.read(x, "t000"), StoryCoroner.BAD);
        Check.due("nothing was refused", x.refusal(0), StoryCoroner.NOTHING);
        Check.due("chapter 30", Check.read(x, "w30@0"), 1);
        Check.due("chapter 01", Check.read(x, "w01@0"), 1);
    }

    private static void readIsAllOrNone() {
        StoryCoroner x = Check.book(2, 1);
        x.seat(0, 4);
        String good = "d0@4;m10=5;t100;w4@0;o0+;j1=3;j0-;c;a";
        Check.refusedIn(x, "refused at last", Check.read(x, good + ";w4@0"), 5, 0, 9);
        Check.due("bad at last", Check.read(x, good + ";d0@40"), StoryCoroner.BAD);
        Check.due("the reason stays", x.refusal(2), 9);
        Check.due("characters", x.account(0), 2);
        Check.due("authors", x.account(1), 1);
        Check.due("deaths", x.account(2), 0);
        Check.due("who sit", x.account(5), 1);
        Check.due("trials", x.account(6), 0);
        Check.due("chapters", x.account(7), 0);
        Check.due("sworn", x.account(8), 0);
        Check.due("pages", x.pages(1, 0), 0);
        Check.due("changes", x.account(10), 4);
        Check.due("the text is empty", x.account(9), 0);
        Check.due("all", Check.read(x, good), 9);
        Check.due("one change", x.account(10), 5);
        Check.due("trials", x.account(6), 1);
        Check.due("undo", x.undo(), 4);
        Check.due("all of it is undone", x.account(0) + x.account(1) + x.account(2) + x.account(6), 3);
        Check.refusedIn(x, "the first one refused", Check.read(x, "x0;d9@4"), 4, 0, 0);
        Check.due("the first one bad", Check.read(x, "d9@4;x0"), StoryCoroner.BAD);
    }

    private static void readTakesNothingForAnAnswer() {
        StoryCoroner x = new StoryCoroner();
        Check.due("the author before is NOTHING", Check.read(x, "a;w5@0;c"), 3);
        Check.due("by an author", x.account(7), 1);
        Check.due("a character", x.account(0), 1);
    }

    private static void readOfAFullText() {
        StoryCoroner x = Check.book(0, 1);
        StringBuilder full = new StringBuilder();
        for (int i = 0; i < 17; i++) {
            full.append(i % 2 == 0 ? "o0+;" : "o0-;");
        }
        Check.due("68 characters", Check.read(x, full + "a"), 18);
        String many = "c;c;c;c;c;c;c;c;a;a;w1@0;w2@0;w3@0;w4@0;w5@0;w6@0;w7@0;w8@0;w9@0;w10@0";
        Check.due("its length", many.length(), 70);
        Check.due("70 characters", Check.read(x, many), 20);
        StringBuilder most = new StringBuilder("c");
        for (int i = 0; i < 34; i++) {
            most.append(";c");
        }
        StoryCoroner y = new StoryCoroner();
        Check.refusedIn(y, "35 commands", Check.read(y, most.toString()), 1, 8, 8);
        Check.due("35 commands, then too early", Check.read(y, most + ";"), -100 - 70);
    }

    private static void refusal() {
        StoryCoroner x = Check.book(1, 0);
        Check.due("refusal(-1)", x.refusal(-1), StoryCoroner.BAD);
        Check.due("refusal(3)", x.refusal(3), StoryCoroner.BAD);
        for (int what = 0; what < 3; what++) {
            Check.due("nothing was refused", x.refusal(what), StoryCoroner.NOTHING);
        }
        x.die(0, 40);
        Check.due("BAD is no refusal", x.refusal(0), StoryCoroner.NOTHING);
        Check.refusedIn(x, "in a text", Check.read(x, "c;x1"), 4, 0, 1);
        x.die(0, 2);
        Check.due("a success leaves it", x.refusal(2), 1);
        Check.refused(x, "outside", x.die(0, 3), 3, 1);
        x.undo();
        x.save();
        x.restore();
        Check.due("it stays", x.refusal(0), 3);
        x.append('q');
        x.read();
        Check.due("a wrong text leaves it", x.refusal(2), StoryCoroner.NOTHING);
    }

    private static void account() {
        StoryCoroner x = Check.book(3, 2);
        Check.due("account(-1)", x.account(-1), StoryCoroner.BAD);
        Check.due("account(11)", x.account(11), StoryCoroner.BAD);
        Check.read(x, "d0@3;r0@5;d0@6;d1@9;m20=1;j2=1;j4=2;j6=9");
        Check.read(x, "t200;w4@1;j4-;j6-;t200;w5@1;w5@0;w6@0;o1+");
        Check.type(x, "c;c");
        int[] want = {3, 2, 3, 1, 1, 1, 2, 3, 1, 3, 7};
        for (int what = 0; what < want.length; what++) {
            Check.due("account(" + what + ")", x.account(what), want[what]);
        }
        x.die(2, 8);
        x.die(2, 8);
        Check.due("account(10)", x.account(10), 8);
        x.rise(2, 9);
        Check.due("account(10) at its most", x.account(10), 8);
        Check.due("account(3)", x.account(3), 2);
    }

    private static void isWell() {
        StoryCoroner x = new StoryCoroner();
        Check.due("isWell of a new one", x.isWell(), 1);
        Check.read(x, "c;c;c;d0@1;d1@1;m10=3;m20=3;r0@2;d0@30");
        Check.due("isWell", x.isWell(), 1);
        Check.read(x, "x0;x0;x0");
        Check.due("isWell after strikes", x.isWell(), 1);
        x.undo();
        Check.due("isWell after undo", x.isWell(), 1);
    }

    private static void share() {
        StoryCoroner x = Check.book(8, 0);
        Check.due("without deaths", x.share(), StoryCoroner.NOTHING);
        x.seat(0, 1);
        int deaths = 0;
        for (int character = 0; character < 8; character++) {
            for (int number = 0; number < 3; number++) {
                x.die(character, 3 * number + 1);
                deaths++;
                Check.due("none of " + deaths, x.share(), Float.floatToIntBits(0f / (float) deaths));
                if (number < 2) {
                    x.rise(character, 3 * number + 3);
                }
            }
        }
        int solved = 0;
        for (int character = 0; character < 8; character++) {
            int culprit = character == 0 ? 1 : 0;
            x.motive(culprit, character, 9);
            for (int number = 0; number < 3; number++) {
                Check.due("trial", x.trial(culprit, character, number), 1);
                solved++;
                Check.due(solved + " of 24", x.share(), Float.floatToIntBits((float) solved / 24f));
            }
        }
        manyShares();
    }

    private static void manyShares() {
        StoryCoroner x = Check.book(8, 0);
        x.seat(0, 1);
        int deaths = 0;
        int solved = 0;
        for (int character = 1; character < 8; character++) {
            x.motive(0, character, 1);
            x.die(character, 2);
            deaths++;
            if (character % 3 != 0) {
                x.trial(0, character, 0);
                solved++;
            }
            String call = solved + " of " + deaths;
            Check.due(call, x.share(), Float.floatToIntBits((float) solved / (float) deaths));
        }
    }
}
