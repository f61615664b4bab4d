import java.lang.reflect.Field;

/** Promise 33: a book whose insides were spoilt is not well. */
public final class WellTest {
    public static void main(String[] args) throws Exception {
        laterThanTheOneAhead();
        everyTurn();
        Check.close("WellTest");
    }

    private static Object held(Object owner, String name) throws Exception {
        Field f = owner.getClass().getDeclaredField(name);
        f.setAccessible(true);
        return f.get(owner);
    }

    private static int[] chapters(StoryCoroner x) throws Exception {
        return (int[]) held(held(held(x, "book"), "chapters"), "cells");
    }

    private static void laterThanTheOneAhead() throws Exception {
        StoryCoroner x = Check.book(3, 0);
        Check.read(x, "d1@4;r1@8;d1@12;d2@4;r2@8");
        int[] chapters = chapters(x);
        int[] good = chapters.clone();
        for (int turn = 0; turn < good.length; turn++) {
            for (int spoilt = 0; spoilt <= 31; spoilt++) {
                if (good[turn] != 0) {
                    chapters[turn] = spoilt;
                    Check.due("turn " + turn + " in " + spoilt, x.isWell(), isWell(chapters, turn) ? 1 : 0);
                    chapters[turn] = good[turn];
                }
            }
        }
        Check.due("as it was", x.isWell(), 1);
    }

    private static boolean isWell(int[] chapters, int turn) {
        int ahead = turn % 6 == 0 ? 0 : chapters[turn - 1];
        int next = turn % 6 == 5 || chapters[turn + 1] == 0 ? 99 : chapters[turn + 1];
        return ahead < chapters[turn] && chapters[turn] < next;
    }

    private static void everyTurn() throws Exception {
        StoryCoroner x = Check.book(1, 0);
        Check.read(x, "d0@4;r0@8");
        int[] chapters = chapters(x);
        chapters[1] = 4;
        Check.due("both in one chapter", x.isWell(), 0);
        chapters[0] = 3;
        Check.due("one later than the other", x.isWell(), 1);
    }
}
