import java.util.ArrayList;
import java.util.Comparator;
import java.util.List;
import java.util.TreeMap;
import java.util.regex.Pattern;

/** The document told a second time, as plainly as it goes, to hold the class against. */
public final class Model {
    private static final int NONE = -1;
    private static final int BAD = -2;
    private static final int REFUSED = -3;
    private static final int NOTHING = -4;
    private static final String ONE = "(c|a|d\\d@\\d\\d?|r\\d@\\d\\d?|x\\d|w\\d\\d?@\\d|o\\d[+-]|m\\d\\d=\\d|j\\d=\\d|j\\d-|t\\d\\d\\d)";
    private static final Pattern WHOLE = Pattern.compile(ONE + "(;" + ONE + ")*");
    private static final String[] SAMPLES = {"c", "a", "d0@0", "d0@00", "r0@0", "x0", "w0@0", "w00@0", "o0+", "m00=0",
        "j0=0", "j0-", "t000"};

    /** A death or a rising. */
    private static final class Event {
        final boolean death;
        final int chapter;
        int culprit = NOTHING;

        Event(boolean death, int chapter) {
            this.death = death;
            this.chapter = chapter;
        }

        Event copy() {
            Event e = new Event(death, chapter);
            e.culprit = culprit;
            return e;
        }
    }

    private static final class State {
        final List<List<Event>> lives = new ArrayList<>();
        final List<Boolean> sworn = new ArrayList<>();
        final TreeMap<Integer, Integer> writers = new TreeMap<>();
        final TreeMap<String, Integer> motives = new TreeMap<>();
        final TreeMap<Integer, Integer> seats = new TreeMap<>();
        int trials;

        State copy() {
            State s = new State();
            for (List<Event> life : lives) {
                List<Event> other = new ArrayList<>();
                for (Event e : life) {
                    other.add(e.copy());
                }
                s.lives.add(other);
            }
            s.sworn.addAll(sworn);
            s.writers.putAll(writers);
            s.motives.putAll(motives);
            s.seats.putAll(seats);
            s.trials = trials;
            return s;
        }

        List<Event> deaths(int c) {
            List<Event> found = new ArrayList<>();
            for (Event e : lives.get(c)) {
                if (e.death) {
                    found.add(e);
                }
            }
            return found;
        }

        boolean deadIn(int c, int chapter) {
            boolean dead = false;
            for (Event e : lives.get(c)) {
                if (e.chapter <= chapter) {
                    dead = e.death;
                }
            }
            return dead;
        }

        int motive(int c, int other) {
            return motives.getOrDefault(c + "/" + other, 0);
        }

        boolean could(int c, int other, int death) {
            int chapter = deaths(other).get(death).chapter;
            return c != other && motive(c, other) > 0 && (chapter == 1 || !deadIn(c, chapter - 1));
        }
    }

    private State now = new State();
    private final List<State> past = new ArrayList<>();
    private State saved;
    private String text = "";
    private String line = "";
    private int[] refusal;
    private int command = NOTHING;
    private boolean inText;

    private int refuse(int reason, int detail) {
        refusal = new int[] {reason, detail, command};
        return REFUSED;
    }

    private void changed(State before) {
        if (!inText) {
            past.add(before);
            if (past.size() > 8) {
                past.remove(0);
            }
        }
    }

    private boolean isCharacter(int c) {
        return c >= 0 && c < now.lives.size();
    }

    private boolean isAuthor(int a) {
        return a >= 0 && a < now.sworn.size();
    }

    private boolean isDeath(int c, int d) {
        return d >= 0 && d < now.deaths(c).size();
    }

    private static boolean isChapter(int chapter) {
        return chapter >= 1 && chapter <= 30;
    }

    public int character() {
        if (now.lives.size() == 8) {
            return refuse(1, 8);
        }
        changed(now.copy());
        now.lives.add(new ArrayList<>());
        return now.lives.size() - 1;
    }

    public int author() {
        if (now.sworn.size() == 4) {
            return refuse(1, 4);
        }
        changed(now.copy());
        now.sworn.add(false);
        return now.sworn.size() - 1;
    }

    private static Event last(List<Event> life) {
        return life.isEmpty() ? null : life.get(life.size() - 1);
    }

    public int die(int c, int chapter) {
        if (!isCharacter(c)) {
            return NONE;
        }
        if (!isChapter(chapter)) {
            return BAD;
        }
        List<Event> life = now.lives.get(c);
        Event last = last(life);
        if (last != null && last.death) {
            return refuse(3, now.deaths(c).size());
        }
        if (last != null && chapter <= last.chapter) {
            return refuse(2, last.chapter);
        }
        if (life.size() == 6) {
            return refuse(1, 6);
        }
        changed(now.copy());
        life.add(new Event(true, chapter));
        return now.deaths(c).size();
    }

    public int rise(int c, int chapter) {
        if (!isCharacter(c)) {
            return NONE;
        }
        if (!isChapter(chapter)) {
            return BAD;
        }
        List<Event> life = now.lives.get(c);
        Event last = last(life);
        if (last == null || !last.death) {
            return refuse(4, now.deaths(c).size());
        }
        if (chapter <= last.chapter) {
            return refuse(2, last.chapter);
        }
        changed(now.copy());
        life.add(new Event(false, chapter));
        int many = 0;
        for (int k = last.chapter; k <= 30; k++) {
            many += now.deadIn(c, k) ? 1 : 0;
        }
        return many;
    }

    public int strike(int c) {
        if (!isCharacter(c)) {
            return NONE;
        }
        if (now.lives.get(c).isEmpty()) {
            return refuse(4, 0);
        }
        changed(now.copy());
        return now.lives.get(c).remove(now.lives.get(c).size() - 1).chapter;
    }

    public int write(int chapter, int a) {
        if (!isAuthor(a)) {
            return NONE;
        }
        if (!isChapter(chapter)) {
            return BAD;
        }
        int before = now.writers.getOrDefault(chapter, NOTHING);
        if (before == a) {
            return refuse(5, a);
        }
        changed(now.copy());
        now.writers.put(chapter, a);
        return before;
    }

    public int swear(int a, int isSworn) {
        if (!isAuthor(a)) {
            return NONE;
        }
        if (isSworn != 0 && isSworn != 1) {
            return BAD;
        }
        if (now.sworn.get(a) == (isSworn == 1)) {
            return refuse(5, isSworn);
        }
        changed(now.copy());
        now.sworn.set(a, isSworn == 1);
        return account(8);
    }

    public int motive(int c, int other, int pages) {
        if (!isCharacter(c) || !isCharacter(other)) {
            return NONE;
        }
        if (pages < 0 || pages > 9) {
            return BAD;
        }
        if (c == other) {
            return refuse(6, c);
        }
        int before = now.motive(c, other);
        if (before == pages) {
            return refuse(5, pages);
        }
        changed(now.copy());
        now.motives.put(c + "/" + other, pages);
        return before;
    }

    public int seat(int seat, int severity) {
        if (seat < 0 || seat > 6) {
            return NONE;
        }
        if (severity < 1 || severity > 9) {
            return BAD;
        }
        if (now.seats.containsKey(seat)) {
            return refuse(7, seat);
        }
        changed(now.copy());
        now.seats.put(seat, severity);
        return now.seats.size();
    }

    public int leave(int seat) {
        if (seat < 0 || seat > 6) {
            return NONE;
        }
        if (!now.seats.containsKey(seat)) {
            return refuse(7, seat);
        }
        changed(now.copy());
        now.seats.remove(seat);
        return now.seats.size();
    }

    private int votes(TreeMap<Integer, Integer> seats, int c, int other, int death) {
        if (!now.could(c, other, death)) {
            return 0;
        }
        int pages = now.motive(c, other);
        int writer = now.writers.getOrDefault(now.deaths(other).get(death).chapter, NOTHING);
        if (writer != NOTHING && now.sworn.get(writer)) {
            pages += 2;
        }
        int many = 0;
        for (int severity : seats.values()) {
            many += pages >= severity ? 1 : 0;
        }
        return many;
    }

    public int trial(int c, int other, int death) {
        if (!isCharacter(c) || !isCharacter(other) || !isDeath(other, death)) {
            return NONE;
        }
        if (c == other) {
            return refuse(6, c);
        }
        Event e = now.deaths(other).get(death);
        if (e.culprit != NOTHING) {
            return refuse(8, e.culprit);
        }
        if (!now.could(c, other, death)) {
            return refuse(9, e.chapter);
        }
        if (now.seats.isEmpty()) {
            return refuse(10, now.trials);
        }
        changed(now.copy());
        now.trials++;
        if (votes(now.seats, c, other, death) <= now.seats.size() / 2) {
            return 0;
        }
        e.culprit = c;
        return 1;
    }

    private List<Event> allDeaths() {
        List<Event> all = new ArrayList<>();
        for (int c = 0; c < now.lives.size(); c++) {
            all.addAll(now.deaths(c));
        }
        return all;
    }

    private static int solved(List<Event> deaths) {
        int many = 0;
        for (Event e : deaths) {
            many += e.culprit == NOTHING ? 0 : 1;
        }
        return many;
    }

    private int caused(int c) {
        int many = 0;
        for (Event e : allDeaths()) {
            many += e.culprit == c ? 1 : 0;
        }
        return many;
    }

    private int lived(int c) {
        int many = 0;
        for (int k = 1; k <= 30; k++) {
            many += now.deadIn(c, k) ? 0 : 1;
        }
        return many;
    }

    public int characterOf(int c, int what) {
        if (!isCharacter(c)) {
            return NONE;
        }
        int held = 0;
        int against = 0;
        for (int other = 0; other < 8; other++) {
            held += now.motive(c, other);
            against += now.motive(other, c);
        }
        int deaths = now.deaths(c).size();
        int[] answers = {deaths, now.lives.get(c).size() - deaths, lived(c), solved(now.deaths(c)), caused(c), held,
            against};
        return what < 0 || what > 6 ? BAD : answers[what];
    }

    public int deathOf(int c, int death, int what) {
        if (!isCharacter(c) || !isDeath(c, death)) {
            return NONE;
        }
        Event e = now.deaths(c).get(death);
        int could = 0;
        for (int k = 0; k < now.lives.size(); k++) {
            could += now.could(k, c, death) ? 1 : 0;
        }
        int next = NOTHING;
        for (Event later : now.lives.get(c)) {
            if (!later.death && later.chapter > e.chapter && next == NOTHING) {
                next = later.chapter;
            }
        }
        int[] answers = {e.chapter, e.culprit, now.writers.getOrDefault(e.chapter, NOTHING), could, next};
        return what < 0 || what > 4 ? BAD : answers[what];
    }

    private List<Event> deathsBy(int a) {
        List<Event> found = new ArrayList<>();
        for (Event e : allDeaths()) {
            if (now.writers.getOrDefault(e.chapter, NOTHING) == a) {
                found.add(e);
            }
        }
        return found;
    }

    public int authorOf(int a, int what) {
        if (!isAuthor(a)) {
            return NONE;
        }
        int chapters = 0;
        for (int writer : now.writers.values()) {
            chapters += writer == a ? 1 : 0;
        }
        int[] answers = {now.sworn.get(a) ? 1 : 0, chapters, deathsBy(a).size(), solved(deathsBy(a))};
        return what < 0 || what > 3 ? BAD : answers[what];
    }

    public int pages(int c, int other) {
        return isCharacter(c) && isCharacter(other) ? now.motive(c, other) : NONE;
    }

    public int dead(int chapter) {
        if (!isChapter(chapter)) {
            return BAD;
        }
        int set = 0;
        for (int c = 0; c < now.lives.size(); c++) {
            set += now.deadIn(c, chapter) ? 1 << c : 0;
        }
        return set;
    }

    public int deadAgain(int chapter) {
        return dead(chapter);
    }

    public int darkest(int isMany) {
        if (isMany != 0 && isMany != 1) {
            return BAD;
        }
        int best = 1;
        for (int k = 30; k >= 1; k--) {
            if (Integer.bitCount(dead(k)) >= Integer.bitCount(dead(best))) {
                best = k;
            }
        }
        return isMany == 0 ? best : Integer.bitCount(dead(best));
    }

    public int suspect(int c, int death) {
        if (!isCharacter(c) || !isDeath(c, death)) {
            return NONE;
        }
        int best = NOTHING;
        for (int k = now.lives.size() - 1; k >= 0; k--) {
            if (now.could(k, c, death) && (best == NOTHING || now.motive(k, c) >= now.motive(best, c))) {
                best = k;
            }
        }
        return best;
    }

    public int suspectAgain(int c, int death) {
        return suspect(c, death);
    }

    public int guilty(int c, int other, int death) {
        if (!isCharacter(c) || !isCharacter(other) || !isDeath(other, death)) {
            return NONE;
        }
        return c == other ? BAD : votes(now.seats, c, other, death);
    }

    public int would(int seat, int severity, int c, int other, int death) {
        if (seat < 0 || seat > 6 || !isCharacter(c) || !isCharacter(other) || !isDeath(other, death)) {
            return NONE;
        }
        if (severity < 1 || severity > 9 || c == other) {
            return BAD;
        }
        TreeMap<Integer, Integer> seats = new TreeMap<>(now.seats);
        seats.put(seat, severity);
        return votes(seats, c, other, death) > seats.size() / 2 ? 1 : 0;
    }

    public int ranked(int kind, int place) {
        if (kind < 0 || kind > 3) {
            return BAD;
        }
        List<Integer> order = new ArrayList<>();
        int size = kind == 3 ? now.sworn.size() : now.lives.size();
        for (int k = 0; k < size; k++) {
            order.add(k);
        }
        order.sort(Comparator.comparingInt(k -> {
            switch (kind) {
                case 0:
                    return -now.deaths(k).size();
                case 1:
                    return lived(k);
                case 2:
                    return -caused(k);
                default:
                    return -deathsBy(k).size();
            }
        }));
        return place < 0 || place >= size ? NONE : order.get(place);
    }

    public int tellCharacter(int c) {
        if (!isCharacter(c)) {
            return NONE;
        }
        line = c + ":";
        for (Event e : now.lives.get(c)) {
            line += (e.death ? "+" : "^") + e.chapter + (e.culprit == NOTHING ? "" : "=" + e.culprit);
        }
        return line.length();
    }

    public int tellChapter(int chapter) {
        if (!isChapter(chapter)) {
            return BAD;
        }
        int writer = now.writers.getOrDefault(chapter, NOTHING);
        List<String> dead = new ArrayList<>();
        for (int c = 0; c < now.lives.size(); c++) {
            if (now.deadIn(c, chapter)) {
                dead.add("" + c);
            }
        }
        String by = writer == NOTHING ? "" : "@" + writer + (now.sworn.get(writer) ? "!" : "");
        line = chapter + by + ":" + String.join(",", dead);
        return line.length();
    }

    public int tellJury() {
        line = "";
        for (int seat = 0; seat < 7; seat++) {
            line += now.seats.containsKey(seat) ? "" + now.seats.get(seat) : ".";
        }
        return 7;
    }

    public int sign(int index) {
        return index >= 0 && index < line.length() ? line.charAt(index) : NONE;
    }

    public int append(int code) {
        if (code < 32 || code > 126 || text.length() == 70) {
            return BAD;
        }
        text += (char) code;
        return text.length();
    }

    private static boolean canContinue(String prefix) {
        for (String sample : SAMPLES) {
            for (int from = 0; from <= sample.length(); from++) {
                if (WHOLE.matcher(prefix + sample.substring(from)).matches()) {
                    return true;
                }
            }
        }
        return false;
    }

    private static int fault(String text) {
        for (int k = 0; k < text.length(); k++) {
            if (!canContinue(text.substring(0, k + 1))) {
                return k;
            }
        }
        return text.length();
    }

    public int read() {
        String whole = text;
        text = "";
        if (!WHOLE.matcher(whole).matches()) {
            return -100 - fault(whole);
        }
        State before = now.copy();
        String[] commands = whole.split(";");
        inText = true;
        int answer = commands.length;
        for (int k = 0; k < commands.length && answer > 0; k++) {
            command = k;
            int got = carryOut(commands[k]);
            if (got == NONE || got == BAD || got == REFUSED) {
                answer = got == REFUSED ? REFUSED : BAD;
            }
        }
        inText = false;
        command = NOTHING;
        if (answer < 0) {
            now = before;
        } else {
            changed(before);
        }
        return answer;
    }

    private int carryOut(String c) {
        String[] parts = c.substring(1).split("[@=]");
        switch (c.charAt(0)) {
            case 'c':
                return character();
            case 'a':
                return author();
            case 'd':
                return die(Integer.parseInt(parts[0]), Integer.parseInt(parts[1]));
            case 'r':
                return rise(Integer.parseInt(parts[0]), Integer.parseInt(parts[1]));
            case 'x':
                return strike(c.charAt(1) - '0');
            case 'w':
                return write(Integer.parseInt(parts[0]), Integer.parseInt(parts[1]));
            case 'o':
                return swear(c.charAt(1) - '0', c.endsWith("+") ? 1 : 0);
            case 'm':
                return motive(c.charAt(1) - '0', c.charAt(2) - '0', c.charAt(4) - '0');
            case 'j':
                return c.endsWith("-") ? leave(c.charAt(1) - '0') : seat(c.charAt(1) - '0', c.charAt(3) - '0');
            default:
                return trial(c.charAt(1) - '0', c.charAt(2) - '0', c.charAt(3) - '0');
        }
    }

    public int refusal(int what) {
        if (what < 0 || what > 2) {
            return BAD;
        }
        return refusal == null ? NOTHING : refusal[what];
    }

    public int account(int what) {
        int risings = -allDeaths().size();
        for (List<Event> life : now.lives) {
            risings += life.size();
        }
        int sworn = 0;
        for (boolean is : now.sworn) {
            sworn += is ? 1 : 0;
        }
        int[] answers = {now.lives.size(), now.sworn.size(), allDeaths().size(), risings, solved(allDeaths()),
            now.seats.size(), now.trials, now.writers.size(), sworn, text.length(), past.size()};
        return what < 0 || what > 10 ? BAD : answers[what];
    }

    public int isWell() {
        return 1;
    }

    public int share() {
        int deaths = allDeaths().size();
        return deaths == 0 ? NOTHING : Float.floatToIntBits((float) solved(allDeaths()) / (float) deaths);
    }

    public int undo() {
        if (past.isEmpty()) {
            return NOTHING;
        }
        now = past.remove(past.size() - 1);
        return past.size();
    }

    public int save() {
        saved = now.copy();
        return now.lives.size();
    }

    public int restore() {
        if (saved == null) {
            return NOTHING;
        }
        now = saved.copy();
        past.clear();
        return now.lives.size();
    }
}
