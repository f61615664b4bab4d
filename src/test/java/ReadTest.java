/** Promise 30: the text of commands, its faults, and that all or none are carried out. */
public final class ReadTest {
    private static final int BAD = Check.BAD;
    private static final int NOTHING = Check.NOTHING;

    /** A beginning of a text, the characters that can follow, and whether the text can end there. */
    private static final String[][] CONTINUED = {
        {"", "cadrxwomjt", "no"}, {"c", ";", "yes"}, {"a", ";", "yes"}, {"c;", "cadrxwomjt", "no"},
        {"d", "0123456789", "no"}, {"d0", "@", "no"}, {"d9", "@", "no"}, {"d0@", "0123456789", "no"},
        {"d0@5", "0123456789;", "yes"}, {"d0@0", "0123456789;", "yes"}, {"d0@12", ";", "yes"}, {"d0@99", ";", "yes"},
        {"r", "0123456789", "no"}, {"r0", "@", "no"}, {"r0@", "0123456789", "no"},
        {"r0@5", "0123456789;", "yes"}, {"r0@12", ";", "yes"},
        {"x", "0123456789", "no"}, {"x0", ";", "yes"}, {"x9", ";", "yes"},
        {"w", "0123456789", "no"}, {"w1", "0123456789@", "no"}, {"w12", "@", "no"}, {"w1@", "0123456789", "no"},
        {"w12@", "0123456789", "no"}, {"w1@0", ";", "yes"}, {"w12@9", ";", "yes"},
        {"o", "0123456789", "no"}, {"o0", "+-", "no"}, {"o0+", ";", "yes"}, {"o0-", ";", "yes"},
        {"m", "0123456789", "no"}, {"m0", "0123456789", "no"}, {"m01", "=", "no"}, {"m01=", "0123456789", "no"},
        {"m01=5", ";", "yes"},
        {"j", "0123456789", "no"}, {"j0", "=-", "no"}, {"j0=", "0123456789", "no"}, {"j0=5", ";", "yes"}, {"j0-", ";", "yes"},
        {"t", "0123456789", "no"}, {"t0", "0123456789", "no"}, {"t01", "0123456789", "no"}, {"t010", ";", "yes"},
        {"a;x0;", "cadrxwomjt", "no"}, {"c;d0@4;r0@5", "0123456789;", "yes"}, {"c;c;m01", "=", "no"},
    };

    public static void main(String[] args) {
        faults();
        faultsOfTheLongest();
        faultsChangeNothing();
        everyCommand();
        numbersInTexts();
        digitsInTexts();
        countsCommands();
        refusedInATextForEachReason();
        refusedOrBad();
        allOrNone();
        oneChange();
        Check.close("ReadTest", 30);
    }

    private static void faults() {
        Check.promise(30, "-100 minus the fault position: the first character with which no such text can continue");
        for (String[] row : CONTINUED) {
            for (int code = 32; code <= 126; code++) {
                String text = row[0] + (char) code;
                boolean canFollow = row[1].indexOf(code) >= 0;
                if (!canFollow) {
                    Check.readDue(new StoryCoroner(), text, -100 - row[0].length());
                    Check.readDue(new StoryCoroner(), text + ";c", -100 - row[0].length());
                } else {
                    int answer = Check.read(new StoryCoroner(), text);
                    Check.due("read of " + text + " finds its fault there", answer == -100 - row[0].length() ? 1 : 0, 0);
                }
            }
        }
        Check.promise(30, "-100 minus the length of the text, if it ends too early");
        for (String[] row : CONTINUED) {
            if (row[2].equals("no")) {
                Check.readDue(new StoryCoroner(), row[0], -100 - row[0].length());
            } else {
                int answer = Check.read(new StoryCoroner(), row[0]);
                Check.due("read of " + row[0] + " finds a fault", answer <= -100 ? 1 : 0, 0);
            }
        }
        Check.promise(30, "an empty text ends too early");
        Check.due(new StoryCoroner(), "read()", -100);
        Check.due(Check.book(2, 1), "read()", -100);
    }

    private static void faultsOfTheLongest() {
        Check.promise(30, "a text of 70 characters, right, and wrong at its end");
        String ahead = "c;c;c;c;c;c;c;c;a;a;a;w1@0;w2@0;w3@0;w4@0;w5@0;w6@0;w7@0;w8@0;w9@0;";
        Check.due("its length", ahead.length(), 67);
        Check.readDue(new StoryCoroner(), ahead + "o0+", 21);
        Check.readDue(new StoryCoroner(), ahead + "o0=", -169);
        Check.readDue(new StoryCoroner(), ahead + "oc", -168);
        Check.readDue(new StoryCoroner(), ahead + "d0@", -170);
        Check.readDue(new StoryCoroner(), ahead + "x0;", -170);
        Check.readDue(new StoryCoroner(), "c;".repeat(35), -170);
        Check.readDue(new StoryCoroner(), "c;".repeat(34) + "cc", -169);
        Check.readDue(new StoryCoroner(), "c;".repeat(34) + "d0", -170);
        Check.readDue(new StoryCoroner(), "c;".repeat(34) + "c", Check.REFUSED);
        Check.readDue(new StoryCoroner(), "c;c;c;c;c;c;c;c;a;a;w1@0;w2@0;w3@0;w4@0;w5@0;w6@0;w7@0;w8@0;w9@0;w10@0", 20);
    }

    private static void faultsChangeNothing() {
        Check.promise(30, "all or none: of a text that is wrong at its end no command is carried out, and none refused");
        StoryCoroner x = Check.book(1, 1);
        Check.readDue(x, "c;a;d0@4;w1@0;o0+;j0=1;", -123);
        Check.readDue(x, "x0;x0;", -106);
        Check.readDue(x, "x0;d0@40;q", -109);
        Check.numbersDue(x, "account(?)", 1, 1, 0, 0, 0, 0, 0, 0, 0, 0, 2);
        Check.due(x, "refusal(0)", NOTHING);
    }

    private static void everyCommand() {
        Check.promise(30, "\"c\" a character, \"a\" an author");
        StoryCoroner x = new StoryCoroner();
        Check.readDue(x, "c", 1);
        Check.due(x, "account(0)", 1);
        Check.due(x, "account(1)", 0);
        Check.readDue(x, "a", 1);
        Check.due(x, "account(1)", 1);
        Check.readDue(x, "c;c;a", 3);
        Check.promise(30, "\"d\" a death in a chapter, \"r\" a rising, \"x\" strikes the last of these out");
        Check.readDue(x, "d1@5;r1@7;d1@30;d2@4", 4);
        Check.lineDue(x, "tellCharacter(1)", "1:+5^7+30");
        Check.lineDue(x, "tellCharacter(2)", "2:+4");
        Check.readDue(x, "x1", 1);
        Check.lineDue(x, "tellCharacter(1)", "1:+5^7");
        Check.promise(30, "\"w\" a chapter by an author, \"o\" sworn, or not");
        Check.readDue(x, "w5@1;o1+", 2);
        Check.lineDue(x, "tellChapter(5)", "5@1!:1,2");
        Check.readDue(x, "o1-", 1);
        Check.lineDue(x, "tellChapter(5)", "5@1:1,2");
        Check.promise(30, "\"m\" a motive of the first one against the second one");
        Check.readDue(x, "m01=4;m10=7", 2);
        Check.due(x, "pages(0, 1)", 4);
        Check.due(x, "pages(1, 0)", 7);
        Check.readDue(x, "m10=0", 1);
        Check.due(x, "pages(1, 0)", 0);
        Check.promise(30, "\"j\" seats a reader with a severity, or lets one go");
        Check.readDue(x, "j6=4;j3=9;j0=1", 3);
        Check.lineDue(x, "tellJury()", "1..9..4");
        Check.readDue(x, "j0-", 1);
        Check.lineDue(x, "tellJury()", "...9..4");
        Check.promise(30, "\"t\" makes a trial, of a character, for another one's death of a number");
        Check.readDue(x, "t010", 1);
        Check.due(x, "account(6)", 1);
        Check.due(x, "account(4)", 0);
        Check.readDue(x, "j3-;d1@9;t011", 3);
        Check.lineDue(x, "tellCharacter(1)", "1:+5^7+9=0");
        Check.due(x, "refusal(0)", NOTHING);
    }

    private static void numbersInTexts() {
        Check.promise(30, "numbers have one or two digits");
        for (int chapter = 1; chapter <= 30; chapter++) {
            StoryCoroner x = Check.book(1, 1);
            Check.readDue(x, "d0@" + chapter + ";w" + chapter + "@0", 2);
            Check.lineDue(x, "tellChapter(" + chapter + ")", chapter + "@0:0");
        }
        for (int chapter = 1; chapter <= 9; chapter++) {
            StoryCoroner x = Check.book(1, 1);
            Check.readDue(x, "w0" + chapter + "@0;d0@0" + chapter, 2);
            Check.lineDue(x, "tellChapter(" + chapter + ")", chapter + "@0:0");
        }
        Check.promise(30, "BAD for the chapters 0, 00 and 31 to 99");
        for (String chapter : new String[] {"0", "00", "31", "32", "40", "99"}) {
            StoryCoroner x = Check.book(2, 1, "die(1, 1)");
            Check.readDue(x, "d0@" + chapter, BAD);
            Check.readDue(x, "r1@" + chapter, BAD);
            Check.readDue(x, "w" + chapter + "@0", BAD);
        }
        StoryCoroner y = Check.book(2, 1, "die(1, 1)");
        Check.readDue(y, "r1@30", 1);
        Check.readDue(y, "w30@0", 1);
    }

    private static void digitsInTexts() {
        Check.promise(30, "each digit is the number that it tells");
        for (int k = 0; k < 8; k++) {
            int other = (k + 3) % 8;
            StoryCoroner x = Check.book(8, 4);
            Check.readDue(x, "d" + k + "@2;r" + k + "@4;x" + k + ";m" + other + k + "=" + (k + 2) + ";j" + k % 7 + "=" + (k + 1), 5);
            Check.readDue(x, "w5@" + k % 4 + ";o" + k % 4 + "+;t" + other + k + "0", 3);
            Check.lineDue(x, "tellCharacter(" + k + ")", k + ":+2=" + other);
            Check.due(x, "pages(" + other + ", " + k + ")", k + 2);
            Check.lineDue(x, "tellChapter(5)", "5@" + k % 4 + "!:" + k);
            Check.lineDue(x, "tellJury()", ".......".substring(0, k % 7) + (k + 1) + ".......".substring(k % 7 + 1));
        }
        Check.promise(30, "BAD if a call for a command returns another error code: of what there is not");
        StoryCoroner x = Check.book(2, 1, "die(0, 4); motive(1, 0, 5)");
        for (String text : new String[] {"d2@4", "d9@4", "r2@9", "r9@9", "x2", "x9", "w1@1", "w1@9", "o1+", "o9-", "m02=1",
            "m20=1", "m99=9", "j7=1", "j9=1", "j7-", "j9-", "j0=0", "t200", "t120", "t101", "t109", "t990", "t110"}) {
            Check.readDue(x, text, BAD);
        }
        Check.due(x, "refusal(0)", NOTHING);
        Check.due(x, "account(10)", 5);
    }

    private static void countsCommands() {
        Check.promise(30, "returns the number of commands, from 1 on");
        for (int many = 1; many <= 17; many++) {
            StringBuilder text = new StringBuilder("o0+");
            for (int k = 1; k < many; k++) {
                text.append(k % 2 == 1 ? ";o0-" : ";o0+");
            }
            Check.readDue(Check.book(0, 1), text.toString(), many);
        }
        Check.promise(30, "a chapter without an author before, and a trial that does not find guilty, are no errors");
        Check.readDue(new StoryCoroner(), "a;w5@0;c", 3);
        StoryCoroner x = Check.book(2, 0, "die(0, 4); motive(1, 0, 1); seat(0, 9)");
        Check.readDue(x, "t100;t100;c", 3);
        Check.due(x, "account(6)", 2);
        Check.promise(30, "the commands are carried out in their order, one upon the other");
        Check.readDue(new StoryCoroner(), "c;d0@3;r0@4;d0@5;x0;x0;r0@9;x0;x0;d0@1;c;m10=1;j0=1;t100", 14);
    }

    private static void refusedInATextForEachReason() {
        Check.promise(30, "REFUSED if a command is refused");
        Check.readRefused(Check.book(8, 0), "c", 1, 8, 0);
        Check.readRefused(Check.book(8, 4), "a", 1, 4, 0);
        Check.readRefused(Check.book(1, 0), "d0@1;r0@2;d0@3;r0@4;d0@5;r0@6;d0@7", 1, 6, 6);
        Check.readRefused(Check.book(1, 0), "d0@9;r0@9", 2, 9, 1);
        Check.readRefused(Check.book(1, 0), "d0@9;r0@10;d0@10", 2, 10, 2);
        Check.readRefused(Check.book(1, 0), "d0@9;d0@12", 3, 1, 1);
        Check.readRefused(Check.book(1, 0), "c;r1@9", 4, 0, 1);
        Check.readRefused(Check.book(1, 0), "x0", 4, 0, 0);
        Check.readRefused(Check.book(0, 4), "w7@3;w7@3", 5, 3, 1);
        Check.readRefused(Check.book(0, 4), "o3+;o3+", 5, 1, 1);
        Check.readRefused(Check.book(0, 4), "o3-", 5, 0, 0);
        Check.readRefused(Check.book(2, 0), "m01=7;m01=7", 5, 7, 1);
        Check.readRefused(Check.book(2, 0), "m01=0", 5, 0, 0);
        Check.readRefused(Check.book(2, 0), "m11=0", 6, 1, 0);
        Check.readRefused(new StoryCoroner(), "j6=4;j6=5", 7, 6, 1);
        Check.readRefused(new StoryCoroner(), "j5-", 7, 5, 0);
        Check.readRefused(Check.book(2, 0), "d0@4;t000", 6, 0, 1);
        Check.readRefused(Check.book(2, 0), "d0@4;m10=1;j0=1;t100;t100", 8, 1, 4);
        Check.readRefused(Check.book(2, 0), "d0@4;j0=1;t100", 9, 4, 2);
        Check.readRefused(Check.book(2, 0), "d0@4;m10=1;t100", 10, 0, 2);
        Check.readRefused(Check.book(2, 0), "d0@4;m10=1;j0=2;t100;t100;j0-;t100", 10, 2, 6);
    }

    private static void refusedOrBad() {
        Check.promise(30, "the command that fails first tells the error");
        StoryCoroner x = Check.book(1, 0);
        Check.readDue(x, "d9@4;x0", BAD);
        Check.due(x, "refusal(0)", NOTHING);
        Check.readRefused(x, "x0;d9@4", 4, 0, 0);
        Check.readRefused(x, "c;x1;x0;d0@40", 4, 0, 1);
        Check.readDue(x, "c;d0@40;x0", BAD);
        Check.refusal(x, "the reason before", 4, 0, 1);
        Check.promise(30, "-100 minus the fault position comes ahead of REFUSED and BAD");
        Check.readDue(x, "x0;", -103);
        Check.readDue(x, "d9@4;q", -105);
        Check.readDue(x, "c;c;c;c;c;c;c;c;c;c", Check.REFUSED);
        Check.readDue(x, "c;c;c;c;c;c;c;c;c;c.", -119);
    }

    private static void allOrNone() {
        Check.promise(30, "all or none: nothing stays of a text of which the last command is refused");
        String good = "d0@4;m10=5;t100;w4@0;o0+;j1=3;j0-;c;a";
        StoryCoroner x = Check.book(2, 1, "seat(0, 4)");
        Check.readRefused(x, good + ";w4@0", 5, 0, 9);
        asBefore(x);
        Check.promise(30, "all or none: nothing stays of a text of which the last command is bad");
        Check.readDue(x, good + ";d0@40", BAD);
        asBefore(x);
        Check.readDue(x, good + ";d9@4", BAD);
        asBefore(x);
        Check.promise(30, "all: the same text without it");
        Check.readDue(x, good, 9);
        Check.numbersDue(x, "account(?)", 3, 2, 1, 0, 1, 1, 1, 1, 1, 0, 5);
        Check.lineDue(x, "tellJury()", ".3.....");
        Check.lineDue(x, "tellCharacter(0)", "0:+4=1");
        Check.lineDue(x, "tellChapter(4)", "4@0!:0");
        Check.due(x, "pages(1, 0)", 5);
    }

    private static void asBefore(StoryCoroner x) {
        Check.numbersDue(x, "account(?)", 2, 1, 0, 0, 0, 1, 0, 0, 0, 0, 4);
        Check.due(x, "pages(1, 0)", 0);
        Check.lineDue(x, "tellJury()", "4......");
        Check.lineDue(x, "tellCharacter(0)", "0:");
    }

    private static void oneChange() {
        Check.term("Changes", "a text that is read is one change, however many commands it has");
        StoryCoroner x = Check.book(1, 0);
        Check.readDue(x, "c;c;a;a;d0@4;r0@5;d0@6;m01=3;j0=9;w1@1", 10);
        Check.due(x, "account(10)", 2);
        Check.due(x, "undo()", 1);
        Check.numbersDue(x, "account(?)", 1, 0, 0, 0, 0, 0, 0, 0, 0, 0, 1);
        Check.readDue(x, "c", 1);
        Check.due(x, "pages(0, 1)", 0);
        Check.lineDue(x, "tellCharacter(0)", "0:");
    }
}
