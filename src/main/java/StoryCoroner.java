/**
 * A coroner of a book: who died and rose in which chapter, who had a motive, who wrote and swore,
 * what a jury of readers finds, and which deaths are solved by that.
 */
public final class StoryCoroner {
    public static final int NONE = -1;
    public static final int BAD = -2;
    public static final int REFUSED = -3;
    public static final int NOTHING = -4;

    private static final int CHARACTERS = 8;
    private static final int AUTHORS = 4;
    private static final int CHAPTERS = 30;
    private static final int TURNS = 6;
    private static final int DEATHS = 3;
    private static final int MOST_PAGES = 9;
    private static final int SEATS = 7;
    private static final int MOST_SEVERE = 9;
    private static final int SWORN_PAGES = 2;
    private static final int UNDOABLE = 8;
    private static final int TEXT_LENGTH = 70;
    private static final int MOST_COMMANDS = 35;
    private static final int ARGUMENTS = 3;
    private static final int LINE_LENGTH = 40;
    private static final int ORDERS = 4;
    private static final int ORDER_OF_AUTHORS = 3;

    private static final int REASON_FULL = 1;
    private static final int REASON_NOT_LATER = 2;
    private static final int REASON_DEAD = 3;
    private static final int REASON_LIVES = 4;
    private static final int REASON_SO_ALREADY = 5;
    private static final int REASON_BOTH_ONE = 6;
    private static final int REASON_SEAT = 7;
    private static final int REASON_SOLVED = 8;
    private static final int REASON_NOT_POSSIBLE = 9;
    private static final int REASON_NO_JURY = 10;

    private final Book book;
    private final Inquest inquest;
    private final Jury jury;
    private final Counts counts;
    private final Refusals refusals;
    private final Changes changes;
    private final History history;
    private final Text text;
    private final Line line;

    public StoryCoroner() {
        Book blank = new Book();
        Inquest questions = new Inquest(blank);
        Jury readers = new Jury(blank);
        Refusals reasons = new Refusals();
        book = blank;
        inquest = questions;
        jury = readers;
        counts = new Counts(blank);
        refusals = reasons;
        changes = new Changes(blank, questions, readers, reasons);
        history = new History();
        text = new Text();
        line = new Line();
    }

    // ---- characters, authors

    public int character() {
        begin();
        return finish(changes.addCharacter());
    }

    public int author() {
        begin();
        return finish(changes.addAuthor());
    }

    public int die(int character, int chapter) {
        begin();
        return finish(changes.letDie(character, chapter));
    }

    public int rise(int character, int chapter) {
        begin();
        return finish(changes.letRise(character, chapter));
    }

    public int strike(int character) {
        begin();
        return finish(changes.strikeOut(character));
    }

    public int write(int chapter, int author) {
        begin();
        return finish(changes.setWriter(chapter, author));
    }

    public int swear(int author, int isSworn) {
        begin();
        return finish(changes.setSworn(author, isSworn));
    }

    public int motive(int character, int other, int pages) {
        begin();
        return finish(changes.setMotive(character, other, pages));
    }

    // ---- juries, trials

    public int seat(int seat, int severity) {
        begin();
        return finish(changes.seatReader(seat, severity));
    }

    public int leave(int seat) {
        begin();
        return finish(changes.letGo(seat));
    }

    public int trial(int character, int other, int death) {
        begin();
        return finish(changes.holdTrial(character, other, death));
    }

    // ---- what there is

    public int characterOf(int character, int what) {
        if (!book.isCharacter(character)) {
            return NONE;
        }
        switch (what) {
            case 0:
                return book.deaths(character);
            case 1:
                return book.risings(character);
            case 2:
                return counts.chaptersLived(character);
            case 3:
                return counts.solvedDeaths(character);
            case 4:
                return counts.deathsCausedBy(character);
            case 5:
                return counts.pagesHeldBy(character);
            case 6:
                return counts.pagesAgainst(character);
            default:
                return BAD;
        }
    }

    public int deathOf(int character, int death, int what) {
        if (!book.isCharacter(character) || !book.isDeath(character, death)) {
            return NONE;
        }
        switch (what) {
            case 0:
                return book.deathChapter(character, death);
            case 1:
                return book.culprit(character, death);
            case 2:
                return book.writers.get(book.deathChapter(character, death));
            case 3:
                return inquest.possibleCulprits(character, death);
            case 4:
                return book.nextRising(character, death);
            default:
                return BAD;
        }
    }

    public int authorOf(int author, int what) {
        if (!book.isAuthor(author)) {
            return NONE;
        }
        switch (what) {
            case 0:
                return book.sworn.get(author);
            case 1:
                return counts.chaptersBy(author);
            case 2:
                return counts.deathsBy(author);
            case 3:
                return counts.solvedDeathsBy(author);
            default:
                return BAD;
        }
    }

    public int pages(int character, int other) {
        if (!book.isCharacter(character) || !book.isCharacter(other)) {
            return NONE;
        }
        return book.motivePages(character, other);
    }

    public int dead(int chapter) {
        return Book.isChapter(chapter) ? inquest.deadByLatest(chapter) : BAD;
    }

    public int deadAgain(int chapter) {
        return Book.isChapter(chapter) ? inquest.deadByChapters(chapter) : BAD;
    }

    public int darkest(int isMany) {
        if (!isYesOrNo(isMany)) {
            return BAD;
        }
        int chapter = inquest.darkestChapter();
        return isMany == 1 ? Integer.bitCount(inquest.deadByLatest(chapter)) : chapter;
    }

    // ---- suspects, juries

    public int suspect(int character, int death) {
        if (!book.isCharacter(character) || !book.isDeath(character, death)) {
            return NONE;
        }
        return inquest.suspectByCharacters(character, death);
    }

    public int suspectAgain(int character, int death) {
        if (!book.isCharacter(character) || !book.isDeath(character, death)) {
            return NONE;
        }
        return inquest.suspectByPages(character, death);
    }

    public int guilty(int character, int other, int death) {
        if (!book.isCase(character, other, death)) {
            return NONE;
        }
        if (character == other) {
            return BAD;
        }
        return jury.votes(inquest.weight(character, other, death));
    }

    public int would(int seat, int severity, int character, int other, int death) {
        if (!Jury.isSeat(seat) || !book.isCase(character, other, death)) {
            return NONE;
        }
        if (!Jury.isSeverity(severity) || character == other) {
            return BAD;
        }
        int weight = inquest.weight(character, other, death);
        return jury.wouldFindGuilty(seat, severity, weight) ? 1 : 0;
    }

    // ---- orders

    public int ranked(int kind, int place) {
        if (kind < 0 || kind >= ORDERS) {
            return BAD;
        }
        return counts.atPlace(kind, place);
    }

    // ---- lines, texts, accounts

    public int tellCharacter(int character) {
        if (!book.isCharacter(character)) {
            return NONE;
        }
        line.clear();
        line.addNumber(character);
        line.addCode(':');
        for (int turn = 0; turn < book.turns.get(character); turn++) {
            addTurn(character, turn);
        }
        return line.size();
    }

    public int tellChapter(int chapter) {
        if (!Book.isChapter(chapter)) {
            return BAD;
        }
        line.clear();
        line.addNumber(chapter);
        addWriter(chapter);
        line.addCode(':');
        addDead(inquest.deadByLatest(chapter));
        return line.size();
    }

    public int tellJury() {
        line.clear();
        for (int seat = 0; seat < SEATS; seat++) {
            if (jury.isTaken(seat)) {
                line.addNumber(book.severities.get(seat));
            } else {
                line.addCode('.');
            }
        }
        return line.size();
    }

    public int sign(int index) {
        return line.codeAt(index);
    }

    public int append(int code) {
        return text.addCode(code) ? text.size() : BAD;
    }

    public int read() {
        int fault = text.parse();
        text.clear();
        if (fault != NONE) {
            return -100 - fault;
        }
        history.keep(book);
        int commands = text.commands();
        for (int command = 0; command < commands; command++) {
            refusals.setCommand(command);
            int answer = carryOut(command);
            if (isError(answer)) {
                history.takeBack(book);
                return answer == REFUSED ? REFUSED : BAD;
            }
        }
        history.confirm();
        return commands;
    }

    public int refusal(int what) {
        return refusals.tell(what);
    }

    public int account(int what) {
        switch (what) {
            case 0:
                return book.characters;
            case 1:
                return book.authors;
            case 2:
                return counts.allDeaths();
            case 3:
                return counts.allRisings();
            case 4:
                return counts.allSolvedDeaths();
            case 5:
                return jury.sitting();
            case 6:
                return book.trials;
            case 7:
                return counts.writtenChapters();
            case 8:
                return book.swornAuthors();
            case 9:
                return text.size();
            case 10:
                return history.size();
            default:
                return BAD;
        }
    }

    public int isWell() {
        return inquest.deadAgree() && inquest.suspectsAgree() && inquest.turnsAreInOrder() ? 1 : 0;
    }

    public int share() {
        int deaths = counts.allDeaths();
        if (deaths <= 0) {
            return NOTHING;
        }
        return bitsOfShare((float) counts.allSolvedDeaths() / (float) deaths);
    }

    // ---- undo and snapshot

    public int undo() {
        return history.stepBack(book) ? history.size() : NOTHING;
    }

    public int save() {
        history.saveSnapshot(book);
        return book.characters;
    }

    public int restore() {
        return history.restoreSnapshot(book) ? book.characters : NOTHING;
    }

    // ---- what the calls share

    private static boolean isYesOrNo(int number) {
        return number == 0 || number == 1;
    }

    // NOTHING is no error among changes: write answers so where no author was before.
    private static boolean isError(int answer) {
        return answer == NONE || answer == BAD || answer == REFUSED;
    }

    private void begin() {
        refusals.setCommand(NOTHING);
        history.keep(book);
    }

    private int finish(int answer) {
        if (!isError(answer)) {
            history.confirm();
        }
        return answer;
    }

    private int carryOut(int command) {
        int first = text.argument(command, 0);
        int second = text.argument(command, 1);
        int third = text.argument(command, 2);
        switch (text.kind(command)) {
            case 'c':
                return changes.addCharacter();
            case 'a':
                return changes.addAuthor();
            case 'd':
                return changes.letDie(first, second);
            case 'r':
                return changes.letRise(first, second);
            case 'x':
                return changes.strikeOut(first);
            case 'w':
                return changes.setWriter(first, second);
            case 'o':
                return changes.setSworn(first, second);
            case 'm':
                return changes.setMotive(first, second, third);
            case 'j':
                return second == NONE ? changes.letGo(first) : changes.seatReader(first, second);
            case 't':
                return changes.holdTrial(first, second, third);
            default:
                return BAD;
        }
    }

    private void addTurn(int character, int turn) {
        boolean isDeath = turn % 2 == 0;
        line.addCode(isDeath ? '+' : '^');
        line.addNumber(book.turnChapter(character, turn));
        if (isDeath && book.isSolved(character, turn / 2)) {
            line.addCode('=');
            line.addNumber(book.culprit(character, turn / 2));
        }
    }

    private void addWriter(int chapter) {
        int writer = book.writers.get(chapter);
        if (!book.isAuthor(writer)) {
            return;
        }
        line.addCode('@');
        line.addNumber(writer);
        if (book.isBySworn(chapter)) {
            line.addCode('!');
        }
    }

    private void addDead(int deadSet) {
        boolean isFirst = true;
        for (int character = 0; character < CHARACTERS; character++) {
            if ((deadSet >> character & 1) == 1) {
                if (!isFirst) {
                    line.addCode(',');
                }
                line.addNumber(character);
                isFirst = false;
            }
        }
    }

    // The bits are put together by hand, as Float is not among the classes that may be used.
    private static int bitsOfShare(float share) {
        if (share <= 0f) {
            return 0;
        }
        float fraction = share;
        int exponent = 127;
        // A share is above 1/32, as there are at most 24 deaths: the doubling ends far below 31.
        for (int step = 0; step < 31 && fraction < 1f; step++) {
            fraction = fraction * 2f;
            exponent--;
        }
        return (exponent << 23) + (int) ((fraction - 1f) * 8388608f);
    }

    /** Numbers in a row. Every index is tested here, so that no access can throw. */
    private static final class Row {
        private final int[] cells;

        Row(int length, int value) {
            cells = new int[Math.max(length, 0)];
            for (int index = 0; index < cells.length; index++) {
                cells[index] = value;
            }
        }

        int get(int index) {
            return index >= 0 && index < cells.length ? cells[index] : 0;
        }

        void set(int index, int value) {
            if (index >= 0 && index < cells.length) {
                cells[index] = value;
            }
        }

        void copyFrom(Row other) {
            int length = Math.min(other.cells.length, cells.length);
            System.arraycopy(other.cells, 0, cells, 0, length);
        }
    }

    /** All that changes can change; undo and the snapshot keep copies of it. */
    private static final class Book {
        int characters;
        int authors;
        int trials;
        // Deaths and risings come in turns, the first of them a death: an even turn is a death.
        final Row turns = new Row(CHARACTERS, 0);
        final Row chapters = new Row(CHARACTERS * TURNS, 0);
        final Row culprits = new Row(CHARACTERS * DEATHS, NOTHING);
        final Row writers = new Row(CHAPTERS + 1, NOTHING);
        final Row sworn = new Row(AUTHORS, 0);
        final Row motives = new Row(CHARACTERS * CHARACTERS, 0);
        // No reader has the severity 0, so it stands for an empty seat.
        final Row severities = new Row(SEATS, 0);

        static boolean isChapter(int chapter) {
            return chapter >= 1 && chapter <= CHAPTERS;
        }

        boolean isCharacter(int number) {
            return number >= 0 && number < characters;
        }

        boolean isAuthor(int number) {
            return number >= 0 && number < authors;
        }

        boolean isDeath(int character, int number) {
            return number >= 0 && number < deaths(character);
        }

        boolean isCase(int character, int other, int death) {
            return isCharacter(character) && isCharacter(other) && isDeath(other, death);
        }

        int deaths(int character) {
            return (turns.get(character) + 1) / 2;
        }

        int risings(int character) {
            return turns.get(character) / 2;
        }

        boolean isDeadAtLast(int character) {
            return turns.get(character) % 2 == 1;
        }

        int turnChapter(int character, int turn) {
            return chapters.get(character * TURNS + turn);
        }

        int lastChapter(int character) {
            int last = turns.get(character) - 1;
            return last >= 0 ? turnChapter(character, last) : 0;
        }

        int deathChapter(int character, int death) {
            return chapters.get(character * TURNS + 2 * death);
        }

        int nextRising(int character, int death) {
            int turn = 2 * death + 1;
            return turn < turns.get(character) ? turnChapter(character, turn) : NOTHING;
        }

        int culprit(int character, int death) {
            return culprits.get(character * DEATHS + death);
        }

        boolean isSolved(int character, int death) {
            return culprit(character, death) != NOTHING;
        }

        void setCulprit(int character, int death, int culprit) {
            culprits.set(character * DEATHS + death, culprit);
        }

        void addTurn(int character, int chapter) {
            int turn = turns.get(character);
            chapters.set(character * TURNS + turn, chapter);
            turns.set(character, turn + 1);
        }

        void removeLastTurn(int character) {
            int last = turns.get(character) - 1;
            if (last % 2 == 0) {
                setCulprit(character, last / 2, NOTHING);
            }
            turns.set(character, last);
        }

        int motivePages(int character, int other) {
            return motives.get(character * CHARACTERS + other);
        }

        boolean isBySworn(int chapter) {
            int writer = writers.get(chapter);
            return isAuthor(writer) && sworn.get(writer) == 1;
        }

        int swornAuthors() {
            int many = 0;
            for (int author = 0; author < authors; author++) {
                many += sworn.get(author);
            }
            return many;
        }

        void copyFrom(Book other) {
            characters = other.characters;
            authors = other.authors;
            trials = other.trials;
            turns.copyFrom(other.turns);
            chapters.copyFrom(other.chapters);
            culprits.copyFrom(other.culprits);
            writers.copyFrom(other.writers);
            sworn.copyFrom(other.sworn);
            motives.copyFrom(other.motives);
            severities.copyFrom(other.severities);
        }
    }

    /** Who is dead when, and who could have caused a death. */
    private static final class Inquest {
        private final Book book;

        Inquest(Book book) {
            this.book = book;
        }

        boolean isDeadIn(int character, int chapter) {
            int latest = NONE;
            int first = character * TURNS;
            for (int turn = 0; turn < book.turns.get(character); turn++) {
                if (book.chapters.get(first + turn) <= chapter) {
                    latest = turn;
                }
            }
            return latest >= 0 && latest % 2 == 0;
        }

        int deadByLatest(int chapter) {
            int deadSet = 0;
            for (int character = 0; character < book.characters; character++) {
                if (isDeadIn(character, chapter)) {
                    deadSet |= 1 << character;
                }
            }
            return deadSet;
        }

        int deadByChapters(int chapter) {
            int deadSet = 0;
            for (int past = 1; past <= chapter && past <= CHAPTERS; past++) {
                deadSet = afterChapter(deadSet, past);
            }
            return deadSet;
        }

        private int afterChapter(int deadAhead, int chapter) {
            int deadSet = deadAhead;
            for (int character = 0; character < book.characters; character++) {
                for (int turn = 0; turn < book.turns.get(character); turn++) {
                    if (book.turnChapter(character, turn) == chapter) {
                        int bit = 1 << character;
                        deadSet = turn % 2 == 0 ? deadSet | bit : deadSet & ~bit;
                    }
                }
            }
            return deadSet;
        }

        int darkestChapter() {
            int darkest = 1;
            int most = 0;
            for (int chapter = 1; chapter <= CHAPTERS; chapter++) {
                int many = Integer.bitCount(deadByLatest(chapter));
                if (many > most) {
                    most = many;
                    darkest = chapter;
                }
            }
            return darkest;
        }

        // Nobody is dead in a chapter 0, so in a death in the chapter 1 only the motive counts.
        boolean couldCause(int character, int other, int death) {
            return book.motivePages(character, other) > 0
                && !isDeadIn(character, book.deathChapter(other, death) - 1);
        }

        int possibleCulprits(int character, int death) {
            int many = 0;
            for (int candidate = 0; candidate < book.characters; candidate++) {
                if (couldCause(candidate, character, death)) {
                    many++;
                }
            }
            return many;
        }

        int suspectByCharacters(int character, int death) {
            int found = NOTHING;
            int most = 0;
            for (int candidate = 0; candidate < book.characters; candidate++) {
                int pages = book.motivePages(candidate, character);
                if (pages > most && couldCause(candidate, character, death)) {
                    most = pages;
                    found = candidate;
                }
            }
            return found;
        }

        int suspectByPages(int character, int death) {
            for (int pages = MOST_PAGES; pages > 0; pages--) {
                for (int candidate = 0; candidate < book.characters; candidate++) {
                    if (book.motivePages(candidate, character) == pages
                            && couldCause(candidate, character, death)) {
                        return candidate;
                    }
                }
            }
            return NOTHING;
        }

        // No reader has a severity below 1, so a weight of 0 convinces nobody.
        int weight(int character, int other, int death) {
            if (!couldCause(character, other, death)) {
                return 0;
            }
            int more = book.isBySworn(book.deathChapter(other, death)) ? SWORN_PAGES : 0;
            return book.motivePages(character, other) + more;
        }

        // The second way is walked once for all chapters, rather than from the first for each.
        boolean deadAgree() {
            int deadSet = 0;
            for (int chapter = 1; chapter <= CHAPTERS; chapter++) {
                deadSet = afterChapter(deadSet, chapter);
                if (deadByLatest(chapter) != deadSet) {
                    return false;
                }
            }
            return true;
        }

        boolean suspectsAgree() {
            for (int character = 0; character < book.characters; character++) {
                for (int death = 0; death < book.deaths(character); death++) {
                    if (suspectByCharacters(character, death) != suspectByPages(character, death)) {
                        return false;
                    }
                }
            }
            return true;
        }

        boolean turnsAreInOrder() {
            for (int character = 0; character < book.characters; character++) {
                int ahead = 0;
                for (int turn = 0; turn < book.turns.get(character); turn++) {
                    int chapter = book.turnChapter(character, turn);
                    if (chapter <= ahead) {
                        return false;
                    }
                    ahead = chapter;
                }
            }
            return true;
        }
    }

    /** The readers on their seats, and what they find. */
    private static final class Jury {
        private final Book book;

        Jury(Book book) {
            this.book = book;
        }

        static boolean isSeat(int seat) {
            return seat >= 0 && seat < SEATS;
        }

        static boolean isSeverity(int severity) {
            return severity >= 1 && severity <= MOST_SEVERE;
        }

        boolean isTaken(int seat) {
            return book.severities.get(seat) > 0;
        }

        int sitting() {
            int many = 0;
            for (int seat = 0; seat < SEATS; seat++) {
                if (isTaken(seat)) {
                    many++;
                }
            }
            return many;
        }

        int votes(int weight) {
            int many = 0;
            for (int seat = 0; seat < SEATS; seat++) {
                many += voteOn(seat, weight);
            }
            return many;
        }

        private int voteOn(int seat, int weight) {
            int severity = book.severities.get(seat);
            return severity > 0 && weight >= severity ? 1 : 0;
        }

        boolean findsGuilty(int weight) {
            return 2 * votes(weight) > sitting();
        }

        boolean wouldFindGuilty(int seat, int severity, int weight) {
            int others = votes(weight) - voteOn(seat, weight);
            int all = others + (weight >= severity ? 1 : 0);
            int many = isTaken(seat) ? sitting() : sitting() + 1;
            return 2 * all > many;
        }
    }

    /** Sums over the whole book, and the orders that go by them. */
    private static final class Counts {
        private final Book book;
        private final Row keys = new Row(CHARACTERS, 0);

        Counts(Book book) {
            this.book = book;
        }

        int chaptersLived(int character) {
            int lived = CHAPTERS;
            for (int death = 0; death < book.deaths(character); death++) {
                int rising = book.nextRising(character, death);
                int end = rising == NOTHING ? CHAPTERS + 1 : rising;
                lived -= end - book.deathChapter(character, death);
            }
            return lived;
        }

        int solvedDeaths(int character) {
            int many = 0;
            for (int death = 0; death < book.deaths(character); death++) {
                if (book.isSolved(character, death)) {
                    many++;
                }
            }
            return many;
        }

        int deathsCausedBy(int culprit) {
            int many = 0;
            for (int character = 0; character < book.characters; character++) {
                for (int death = 0; death < book.deaths(character); death++) {
                    if (book.culprit(character, death) == culprit) {
                        many++;
                    }
                }
            }
            return many;
        }

        int pagesHeldBy(int character) {
            int sum = 0;
            for (int other = 0; other < book.characters; other++) {
                sum += book.motivePages(character, other);
            }
            return sum;
        }

        int pagesAgainst(int character) {
            int sum = 0;
            for (int other = 0; other < book.characters; other++) {
                sum += book.motivePages(other, character);
            }
            return sum;
        }

        int chaptersBy(int author) {
            int many = 0;
            for (int chapter = 1; chapter <= CHAPTERS; chapter++) {
                if (book.writers.get(chapter) == author) {
                    many++;
                }
            }
            return many;
        }

        int writtenChapters() {
            return CHAPTERS - chaptersBy(NOTHING);
        }

        int deathsBy(int author) {
            int many = 0;
            for (int character = 0; character < book.characters; character++) {
                for (int death = 0; death < book.deaths(character); death++) {
                    if (isDeathBy(author, character, death)) {
                        many++;
                    }
                }
            }
            return many;
        }

        int solvedDeathsBy(int author) {
            int many = 0;
            for (int character = 0; character < book.characters; character++) {
                for (int death = 0; death < book.deaths(character); death++) {
                    if (isDeathBy(author, character, death) && book.isSolved(character, death)) {
                        many++;
                    }
                }
            }
            return many;
        }

        private boolean isDeathBy(int author, int character, int death) {
            return book.writers.get(book.deathChapter(character, death)) == author;
        }

        int allDeaths() {
            int many = 0;
            for (int character = 0; character < book.characters; character++) {
                many += book.deaths(character);
            }
            return many;
        }

        int allRisings() {
            int many = 0;
            for (int character = 0; character < book.characters; character++) {
                many += book.risings(character);
            }
            return many;
        }

        int allSolvedDeaths() {
            int many = 0;
            for (int character = 0; character < book.characters; character++) {
                many += solvedDeaths(character);
            }
            return many;
        }

        int atPlace(int kind, int place) {
            int many = kind == ORDER_OF_AUTHORS ? book.authors : book.characters;
            for (int number = 0; number < many; number++) {
                keys.set(number, key(kind, number));
            }
            for (int number = 0; number < many; number++) {
                if (aheadOf(number, many) == place) {
                    return number;
                }
            }
            return NONE;
        }

        // The greatest key comes first, so what is wanted small has its sign turned.
        private int key(int kind, int number) {
            switch (kind) {
                case 0:
                    return book.deaths(number);
                case 1:
                    return -chaptersLived(number);
                case 2:
                    return deathsCausedBy(number);
                default:
                    return deathsBy(number);
            }
        }

        private int aheadOf(int number, int many) {
            int ahead = 0;
            int key = keys.get(number);
            for (int other = 0; other < many; other++) {
                int otherKey = keys.get(other);
                if (otherKey > key || otherKey == key && other < number) {
                    ahead++;
                }
            }
            return ahead;
        }
    }

    /** What was refused last, and why. */
    private static final class Refusals {
        private int commandNow = NOTHING;
        private int reason = NOTHING;
        private int detail = NOTHING;
        private int command = NOTHING;

        void setCommand(int number) {
            commandNow = number;
        }

        int refuse(int why, int number) {
            reason = why;
            detail = number;
            command = commandNow;
            return REFUSED;
        }

        int tell(int what) {
            switch (what) {
                case 0:
                    return reason;
                case 1:
                    return detail;
                case 2:
                    return command;
                default:
                    return BAD;
            }
        }
    }

    /** The changes of the book, each refused for its reasons in the order of the document. */
    private static final class Changes {
        private final Book book;
        private final Inquest inquest;
        private final Jury jury;
        private final Refusals refusals;

        Changes(Book book, Inquest inquest, Jury jury, Refusals refusals) {
            this.book = book;
            this.inquest = inquest;
            this.jury = jury;
            this.refusals = refusals;
        }

        int addCharacter() {
            int number = book.characters;
            if (number >= CHARACTERS) {
                return refusals.refuse(REASON_FULL, number);
            }
            book.characters = number + 1;
            return number;
        }

        int addAuthor() {
            int number = book.authors;
            if (number >= AUTHORS) {
                return refusals.refuse(REASON_FULL, number);
            }
            book.authors = number + 1;
            return number;
        }

        int letDie(int character, int chapter) {
            if (!book.isCharacter(character)) {
                return NONE;
            }
            if (!Book.isChapter(chapter)) {
                return BAD;
            }
            if (book.isDeadAtLast(character)) {
                return refusals.refuse(REASON_DEAD, book.deaths(character));
            }
            if (!canTurn(character, chapter)) {
                return REFUSED;
            }
            book.addTurn(character, chapter);
            return book.deaths(character);
        }

        int letRise(int character, int chapter) {
            if (!book.isCharacter(character)) {
                return NONE;
            }
            if (!Book.isChapter(chapter)) {
                return BAD;
            }
            if (!book.isDeadAtLast(character)) {
                return refusals.refuse(REASON_LIVES, book.deaths(character));
            }
            if (!canTurn(character, chapter)) {
                return REFUSED;
            }
            int died = book.lastChapter(character);
            book.addTurn(character, chapter);
            return chapter - died;
        }

        private boolean canTurn(int character, int chapter) {
            int last = book.lastChapter(character);
            if (chapter <= last) {
                refusals.refuse(REASON_NOT_LATER, last);
                return false;
            }
            int turns = book.turns.get(character);
            if (turns >= TURNS) {
                refusals.refuse(REASON_FULL, turns);
                return false;
            }
            return true;
        }

        int strikeOut(int character) {
            if (!book.isCharacter(character)) {
                return NONE;
            }
            if (book.turns.get(character) == 0) {
                return refusals.refuse(REASON_LIVES, book.deaths(character));
            }
            int chapter = book.lastChapter(character);
            book.removeLastTurn(character);
            return chapter;
        }

        int setWriter(int chapter, int author) {
            if (!book.isAuthor(author)) {
                return NONE;
            }
            if (!Book.isChapter(chapter)) {
                return BAD;
            }
            int before = book.writers.get(chapter);
            if (before == author) {
                return refusals.refuse(REASON_SO_ALREADY, author);
            }
            book.writers.set(chapter, author);
            return before;
        }

        int setSworn(int author, int isSworn) {
            if (!book.isAuthor(author)) {
                return NONE;
            }
            if (!isYesOrNo(isSworn)) {
                return BAD;
            }
            if (book.sworn.get(author) == isSworn) {
                return refusals.refuse(REASON_SO_ALREADY, isSworn);
            }
            book.sworn.set(author, isSworn);
            return book.swornAuthors();
        }

        int setMotive(int character, int other, int pages) {
            if (!book.isCharacter(character) || !book.isCharacter(other)) {
                return NONE;
            }
            if (pages < 0 || pages > MOST_PAGES) {
                return BAD;
            }
            if (character == other) {
                return refusals.refuse(REASON_BOTH_ONE, character);
            }
            int before = book.motivePages(character, other);
            if (before == pages) {
                return refusals.refuse(REASON_SO_ALREADY, pages);
            }
            book.motives.set(character * CHARACTERS + other, pages);
            return before;
        }

        int seatReader(int seat, int severity) {
            if (!Jury.isSeat(seat)) {
                return NONE;
            }
            if (!Jury.isSeverity(severity)) {
                return BAD;
            }
            if (jury.isTaken(seat)) {
                return refusals.refuse(REASON_SEAT, seat);
            }
            book.severities.set(seat, severity);
            return jury.sitting();
        }

        int letGo(int seat) {
            if (!Jury.isSeat(seat)) {
                return NONE;
            }
            if (!jury.isTaken(seat)) {
                return refusals.refuse(REASON_SEAT, seat);
            }
            book.severities.set(seat, 0);
            return jury.sitting();
        }

        int holdTrial(int character, int other, int death) {
            if (!book.isCase(character, other, death)) {
                return NONE;
            }
            if (character == other) {
                return refusals.refuse(REASON_BOTH_ONE, character);
            }
            if (book.isSolved(other, death)) {
                return refusals.refuse(REASON_SOLVED, book.culprit(other, death));
            }
            if (!inquest.couldCause(character, other, death)) {
                return refusals.refuse(REASON_NOT_POSSIBLE, book.deathChapter(other, death));
            }
            if (jury.sitting() == 0) {
                return refusals.refuse(REASON_NO_JURY, book.trials);
            }
            book.trials++;
            if (!jury.findsGuilty(inquest.weight(character, other, death))) {
                return 0;
            }
            book.setCulprit(other, death, character);
            return 1;
        }
    }

    /** The states ahead of the latest changes, in a ring, and the snapshot. */
    private static final class History {
        // One more than can be undone: the state ahead of a change that may yet fail.
        private final Book[] states = new Book[UNDOABLE + 1];
        private final Book snapshot = new Book();
        private int next;
        private int many;
        private boolean isSaved;

        History() {
            for (int index = 0; index < states.length; index++) {
                states[index] = new Book();
            }
        }

        int size() {
            return many;
        }

        void keep(Book book) {
            if (isInRing(next)) {
                states[next].copyFrom(book);
            }
        }

        void confirm() {
            next = next < UNDOABLE ? next + 1 : 0;
            many = Math.min(many + 1, UNDOABLE);
        }

        void takeBack(Book book) {
            if (isInRing(next)) {
                book.copyFrom(states[next]);
            }
        }

        boolean stepBack(Book book) {
            if (many == 0) {
                return false;
            }
            next = next > 0 ? next - 1 : UNDOABLE;
            many--;
            takeBack(book);
            return true;
        }

        void saveSnapshot(Book book) {
            snapshot.copyFrom(book);
            isSaved = true;
        }

        boolean restoreSnapshot(Book book) {
            if (!isSaved) {
                return false;
            }
            book.copyFrom(snapshot);
            many = 0;
            return true;
        }

        private boolean isInRing(int index) {
            return index >= 0 && index < states.length && states[index] != null;
        }
    }

    /** The text of commands, and what was read in it. */
    private static final class Text {
        private final Row codes = new Row(TEXT_LENGTH, 0);
        private final Row kinds = new Row(MOST_COMMANDS, 0);
        private final Row arguments = new Row(MOST_COMMANDS * ARGUMENTS, 0);
        private int length;
        private int commands;
        private int position;
        private int given;

        int size() {
            return length;
        }

        // What was read in the text stays, so that it can be carried out.
        void clear() {
            length = 0;
        }

        boolean addCode(int code) {
            if (code < 32 || code > 126 || length >= TEXT_LENGTH) {
                return false;
            }
            codes.set(length, code);
            length++;
            return true;
        }

        int commands() {
            return commands;
        }

        int kind(int command) {
            return kinds.get(command);
        }

        int argument(int command, int number) {
            return arguments.get(command * ARGUMENTS + number);
        }

        // The position stays where reading stopped, be it a wrong character or the end too early.
        int parse() {
            position = 0;
            commands = 0;
            for (int command = 0; command < MOST_COMMANDS; command++) {
                if (!takeCommand()) {
                    return position;
                }
                commands++;
                if (position == length) {
                    return NONE;
                }
                if (!take(';')) {
                    return position;
                }
            }
            return position;
        }

        private boolean takeCommand() {
            int kind = ahead();
            kinds.set(commands, kind);
            given = 0;
            switch (kind) {
                case 'c':
                case 'a':
                    return take(kind);
                case 'd':
                case 'r':
                    return take(kind) && takeDigit() && take('@') && takeNumber();
                case 'x':
                    return take(kind) && takeDigit();
                case 'w':
                    return take(kind) && takeNumber() && take('@') && takeDigit();
                case 'o':
                    return take(kind) && takeDigit() && takePlusOrMinus();
                case 'm':
                    return take(kind) && takeDigit() && takeDigit() && take('=') && takeDigit();
                case 'j':
                    return take(kind) && takeDigit() && takeSeverityOrMinus();
                case 't':
                    return take(kind) && takeDigit() && takeDigit() && takeDigit();
                default:
                    return false;
            }
        }

        // No character has the code 0, so it stands for the end of the text.
        private int ahead() {
            return position < length ? codes.get(position) : 0;
        }

        private static boolean isDigit(int code) {
            return code >= '0' && code <= '9';
        }

        private boolean take(int code) {
            if (ahead() != code) {
                return false;
            }
            position++;
            return true;
        }

        private boolean takeDigit() {
            int code = ahead();
            if (!isDigit(code)) {
                return false;
            }
            position++;
            give(code - '0');
            return true;
        }

        private boolean takeNumber() {
            int code = ahead();
            if (!isDigit(code)) {
                return false;
            }
            position++;
            int number = code - '0';
            int second = ahead();
            if (isDigit(second)) {
                position++;
                number = 10 * number + second - '0';
            }
            give(number);
            return true;
        }

        private boolean takePlusOrMinus() {
            give(ahead() == '+' ? 1 : 0);
            return take('+') || take('-');
        }

        // A reader who goes has no severity: NONE stands in its place.
        private boolean takeSeverityOrMinus() {
            if (take('-')) {
                give(NONE);
                return true;
            }
            return take('=') && takeDigit();
        }

        private void give(int number) {
            arguments.set(commands * ARGUMENTS + given, number);
            given++;
        }
    }

    /** The line that was told last. */
    private static final class Line {
        private final Row codes = new Row(LINE_LENGTH, 0);
        private int length;

        int size() {
            return length;
        }

        void clear() {
            length = 0;
        }

        int codeAt(int index) {
            return index >= 0 && index < length ? codes.get(index) : NONE;
        }

        void addCode(int code) {
            if (length < LINE_LENGTH) {
                codes.set(length, code);
                length++;
            }
        }

        // Two digits are enough: no number of the book goes beyond the last chapter.
        void addNumber(int number) {
            if (number > 9) {
                addCode('0' + number / 10 % 10);
            }
            addCode('0' + number % 10);
        }
    }
}
