import java.lang.reflect.Field;
import java.lang.reflect.Method;

/** Promise 33: no calls make a book that is not well, so that the insides of one are spoilt. */
public final class WellTest {
    public static void main(String[] args) throws Exception {
        laterThanTheOneAhead();
        everyTurn();
        suspectsOfAllDeaths();
        deadInAllChapters();
        Check.close("WellTest", 33);
    }

    private static Object held(Object owner, String name) throws Exception {
        Field f = owner.getClass().getDeclaredField(name);
        f.setAccessible(true);
        return f.get(owner);
    }

    private static int[] cells(StoryCoroner x, String row) throws Exception {
        return (int[]) held(held(held(x, "book"), row), "cells");
    }

    private static void laterThanTheOneAhead() throws Exception {
        Check.promise(33, "each in a later chapter than the one ahead, of all characters");
        StoryCoroner x = Check.book(3, 0, "die(1, 4); rise(1, 8); die(1, 12); die(2, 4); rise(2, 8)");
        int[] chapters = cells(x, "chapters");
        int[] good = chapters.clone();
        for (int turn = 0; turn < good.length; turn++) {
            for (int spoilt = 0; spoilt <= 31; spoilt++) {
                if (good[turn] != 0) {
                    chapters[turn] = spoilt;
                    Check.due("turn " + turn + " in " + spoilt, x.isWell(), isWell(chapters, turn) ? 1 : 0);
                    chapters[turn] = good[turn];
                }
            }
        }
        Check.due("as it was", x.isWell(), 1);
    }

    private static boolean isWell(int[] chapters, int turn) {
        int ahead = turn % 6 == 0 ? 0 : chapters[turn - 1];
        int next = turn % 6 == 5 || chapters[turn + 1] == 0 ? 99 : chapters[turn + 1];
        return ahead < chapters[turn] && chapters[turn] < next;
    }

    private static void everyTurn() throws Exception {
        Check.promise(33, "deaths and risings come in turns");
        StoryCoroner x = Check.book(1, 0, "die(0, 4); rise(0, 8)");
        int[] chapters = cells(x, "chapters");
        chapters[1] = 4;
        Check.due("both in one chapter", x.isWell(), 0);
        chapters[0] = 3;
        Check.due("one later than the other", x.isWell(), 1);
    }

    /** Ten pages are more than a motive can have: the way by pages begins below them. */
    private static void suspectsOfAllDeaths() throws Exception {
        Check.promise(33, "the suspect is told alike by both ways for all deaths");
        StoryCoroner x = Check.book(8, 0, "die(0, 4); die(3, 9); rise(3, 10); die(3, 20); die(7, 20); die(6, 12)");
        int[] motives = cells(x, "motives");
        for (int one = 0; one < 8; one++) {
            for (int other = 0; other < 8; other++) {
                motives[8 * one + other] = 10;
                Check.due(one + " against " + other, x.isWell(), couldCauseOne(x, one, other) ? 0 : 1);
                motives[8 * one + other] = 0;
            }
        }
        Check.due("as it was", x.isWell(), 1);
    }

    private static boolean couldCauseOne(StoryCoroner x, int one, int other) {
        for (int death = 0; death < 3; death++) {
            int chapter = x.deathOf(other, death, 0);
            if (chapter > 1 && (x.dead(chapter - 1) >> one & 1) == 0) {
                return true;
            }
        }
        return false;
    }

    /** A book whose turns are not in order is not well for that alone, so that the comparison itself is asked. */
    private static void deadInAllChapters() throws Exception {
        Check.promise(33, "who is dead is told alike by both ways for all chapters");
        for (int chapter = 1; chapter <= 30; chapter++) {
            StoryCoroner x = Check.book(8, 0, "die(7, 4); rise(7, 8); die(7, 12)");
            Check.due("dead alike", agree(x) ? 1 : 0, 1);
            int[] chapters = cells(x, "chapters");
            int first = 7 * 6;
            chapters[first] = chapter;
            chapters[first + 1] = chapter - 1;
            chapters[first + 2] = chapter + 1;
            Check.due("dead alike in all but " + chapter, agree(x) ? 1 : 0, 0);
        }
    }

    private static boolean agree(StoryCoroner x) throws Exception {
        Object inquest = held(x, "inquest");
        Method compare = inquest.getClass().getDeclaredMethod("deadAgree");
        compare.setAccessible(true);
        return (boolean) compare.invoke(inquest);
    }
}
