import java.util.function.Supplier;

/**
 * All that can be seen of an object, as a text. As an object is used for at most 512 calls, each part
 * is asked of a new one, to which the same was told.
 */
final class State {
    private State() {
    }

    /** What stands now. */
    static String now(Supplier<StoryCoroner> teller) {
        return numbers(teller.get()) + motives(teller.get()) + writers(teller.get());
    }

    /** What stands now, by all undos, by restore, and by the text that is read. */
    static String whole(Supplier<StoryCoroner> teller) {
        return now(teller) + later(teller);
    }

    /** What stands when changes are undone, when the snapshot is restored, and when the text is read. */
    static String later(Supplier<StoryCoroner> teller) {
        StringBuilder told = new StringBuilder();
        for (int times = 1; times <= 9; times++) {
            int undos = times;
            told.append("\nundone ").append(times).append(": ").append(book(() -> after(teller, "undo()", undos)));
        }
        told.append("\nrestored: ").append(book(() -> after(teller, "restore()", 1)));
        told.append("\nread: ").append(Check.ask(teller.get(), "read()"));
        return told.append(book(() -> after(teller, "read()", 1))).toString();
    }

    private static StoryCoroner after(Supplier<StoryCoroner> teller, String call, int times) {
        StoryCoroner x = teller.get();
        for (int k = 0; k < times; k++) {
            Check.ask(x, call);
        }
        return x;
    }

    /** The book alone, that changes can change. */
    static String book(Supplier<StoryCoroner> teller) {
        return accounts(teller.get()) + people(teller.get()) + motives(teller.get()) + writers(teller.get());
    }

    /** The line, the reasons, the text's length, and the numbers of the book. */
    private static String numbers(StoryCoroner x) {
        StringBuilder told = new StringBuilder("line ").append(Check.line(x)).append("\nreasons");
        for (int what = 0; what <= 2; what++) {
            told.append(' ').append(x.refusal(what));
        }
        return told.append(accounts(x)).append(people(x)).toString();
    }

    private static String accounts(StoryCoroner x) {
        StringBuilder told = new StringBuilder("\naccounts");
        for (int what = 0; what <= 10; what++) {
            told.append(' ').append(x.account(what));
        }
        return told.toString();
    }

    private static String people(StoryCoroner x) {
        StringBuilder told = new StringBuilder("\ncharacters");
        for (int k = 0; k < 8; k++) {
            for (int what = 0; what <= 6; what++) {
                told.append(' ').append(x.characterOf(k, what));
            }
            told.append(" deaths");
            for (int death = 0; death < 5 && x.deathOf(k, death, 0) >= 0; death++) {
                told.append(' ').append(x.deathOf(k, death, 0)).append('-').append(x.deathOf(k, death, 4));
                told.append('=').append(x.deathOf(k, death, 1));
            }
        }
        told.append("\nauthors");
        for (int author = 0; author < 4; author++) {
            for (int what = 0; what <= 3; what++) {
                told.append(' ').append(x.authorOf(author, what));
            }
        }
        x.tellJury();
        return told.append("\njury ").append(Check.line(x)).toString();
    }

    private static String motives(StoryCoroner x) {
        StringBuilder told = new StringBuilder("\nmotives");
        for (int one = 0; one < 8; one++) {
            for (int other = 0; other < 8; other++) {
                told.append(' ').append(x.pages(one, other));
            }
        }
        return told.toString();
    }

    /** Of the line of each chapter what stands ahead of the dead. */
    private static String writers(StoryCoroner x) {
        StringBuilder told = new StringBuilder("\nchapters ");
        for (int chapter = 1; chapter <= 30; chapter++) {
            x.tellChapter(chapter);
            int code = 0;
            for (int index = 0; index < 8 && code != ':'; index++) {
                code = x.sign(index);
                told.append((char) code);
            }
        }
        return told.toString();
    }
}
