/** Promises 9 go, 10 what an hour does to strings, 17 stringOf, 18 muleOf. */
public final class TrainTest {
    private static final Due DUE = new Due();
    private static final int MOST = Integer.MAX_VALUE;
    private static final int LEAST = Integer.MIN_VALUE;

    public static void main(String[] args) {
        goThere();
        goRefused();
        ledge();
        balance();
        tire();
        lame();
        askWrongly();
        DUE.end();
    }

    private static void stringIs(MuleRoad x, String when, int... want) {
        for (int what = 0; what < want.length; what++) {
            DUE.is(when + ": stringOf(0, " + what + ")", x.stringOf(0, what), want[what]);
        }
    }

    private static void goThere() {
        MuleRoad x = Due.road(Due.leg(3, 0, 0), Due.leg(9, 0, 0));
        x.string(1, 50, 50, 50);
        stringIs(x, "at inn 1", 1, -1, -1, -1, 0);
        x.hours(10);
        DUE.is("go(0, false)", x.go(0, false), 13);
        stringIs(x, "on leg 0", -1, 0, 0, 13, 0);
        x.hours(2);
        stringIs(x, "still on leg 0", -1, 0, 0, 13, 0);
        x.hours(1);
        stringIs(x, "at inn 0", 0, -1, -1, -1, 0);
        DUE.is("go(0, true)", x.go(0, true), 16);
        stringIs(x, "on leg 0 up", -1, 0, 1, 16, 0);
        x.hours(3);
        DUE.is("go(0, true)", x.go(0, true), 25);
        stringIs(x, "on leg 1 up", -1, 1, 1, 25, 0);
        x.hours(100);
        stringIs(x, "at inn 2", 2, -1, -1, -1, 0);
        Due.pass(x, 9999 - 116);
        DUE.is("go in the last hour", x.go(0, false), 10008);
    }

    private static void goRefused() {
        MuleRoad x = Due.road(Due.leg(1, 0, 1), Due.leg(1, 0, 0));
        x.string(0, 50, 50, 50);
        x.string(0, 50, 50, 50);
        x.pack(0, 1, 0, 11);
        int[] none = {-1, 2, MOST, LEAST};
        for (int n : none) {
            DUE.is("go(" + n + ", true)", x.go(n, true), -1);
        }
        x.snow(0, 0, 0);
        x.lay(0, 0, 0, 0);
        DUE.is("-3 ahead of -4", x.go(0, false), -3);
        DUE.is("-4 ahead of -5", x.go(0, true), -4);
        x.down(0);
        DUE.is("-5", x.go(0, true), -5);
        x.hours(1);
        DUE.is("snow is over", x.go(1, true), 2);
        DUE.is("-2", x.go(1, true), -2);
        DUE.is("-2 ahead of -3", x.go(1, false), -2);
        x.snow(0, 1, 1);
        DUE.is("-5 ahead of -6", x.go(0, true), -5);
        x.hours(1);
        DUE.is("snow on a leg stops nobody who is on it", x.stringOf(1, 0), 1);
        x.snow(0, 0, 1);
        x.snow(0, 3, 9);
        DUE.is("snow of other hours", x.go(0, true), 3);
        DUE.is("there is a leg down", x.go(1, false), -6);
        DUE.is("there is a leg up", x.go(1, true), 3);
        x.hours(1);
        DUE.is("up beyond the last inn", x.go(1, true), -3);
    }

    private static void ledge() {
        MuleRoad x = Due.road(Due.leg(2, 0, 0), Due.leg(2, 0, 1));
        x.string(0, 50, 50, 50);
        x.string(0, 50, 50, 50);
        x.string(1, 50, 50, 50);
        x.string(2, 50, 50, 50);
        DUE.is("no ledge", x.go(0, true), 2);
        DUE.is("no ledge, a second one", x.go(1, true), 2);
        DUE.is("onto the ledge", x.go(2, true), 2);
        DUE.is("against it", x.go(3, false), -6);
        x.hours(1);
        DUE.is("still against it", x.go(3, false), -6);
        x.hours(1);
        DUE.is("the ledge is free", x.go(0, true), 4);
        DUE.is("behind it", x.go(1, true), -6);
        DUE.is("down by another leg", x.go(1, false), 4);
    }

    private static void balance() {
        MuleRoad x = Due.road(Due.leg(1, 0, 0));
        x.string(0, 120, 120, 120);
        int[] weights = {30, 19, 1, 50};
        for (int i = 0; i < 4; i++) {
            x.pack(0, 1, i, weights[i]);
        }
        x.lay(0, 2, 1, 0);
        x.lay(0, 2, 0, 1);
        DUE.is("11 apart", x.go(0, true), -4);
        x.lay(0, 2, 2, 3);
        DUE.is("11 apart and glass", x.go(0, true), -4);
        x.lay(0, 2, 0, 2);
        DUE.is("10 apart", x.go(0, true), 1);
        x.hours(1);
        DUE.is("muleOf(0, 2, 4)", x.muleOf(0, 2, 4), 20);
        DUE.is("muleOf(0, 2, 5)", x.muleOf(0, 2, 5), 30);
        DUE.is("muleOf(0, 2, 3)", x.muleOf(0, 2, 3), 100);
        DUE.is("muleOf(0, 2, 6)", x.muleOf(0, 2, 6), 3);
    }

    private static void tiredAre(MuleRoad x, String when, int... want) {
        for (int i = 0; i < want.length; i++) {
            DUE.is(when + ": muleOf(0, " + i + ", 1)", x.muleOf(0, i, 1), want[i]);
        }
    }

    private static void tire() {
        MuleRoad x = Due.road(Due.leg(3, 7, 0));
        x.string(0, 120, 120, 120);
        x.pack(0, 1, 3, 57);
        x.pack(0, 1, 3, 58);
        x.lay(0, 0, 2, 0);
        x.lay(0, 1, 2, 1);
        x.go(0, true);
        x.hours(1);
        tiredAre(x, "57 * 7 is cut, 58 * 7", 5, 6, 2);
        x.hours(2);
        tiredAre(x, "it tires in its last hour, and rests not yet", 15, 18, 6);
        x.hours(1);
        tiredAre(x, "a rest under load", 10, 13, 1);
        x.hours(1);
        tiredAre(x, "0 at least", 5, 8, 0);
        x.go(0, false);
        x.hours(1);
        tiredAre(x, "down tires as up does", 10, 14, 2);
        MuleRoad y = Due.road(Due.leg(1, 7, 0));
        y.string(0, 120, 120, 120);
        for (int i = 0; i < 2; i++) {
            y.pack(0, 1, 0, 50);
            y.lay(0, 0, i, i);
        }
        y.go(0, true);
        y.hours(1);
        tiredAre(y, "100 * 7 by 100, nothing to cut", 9, 2, 2);
    }

    private static void lame() {
        MuleRoad x = Due.road(Due.leg(9, 9, 0), Due.leg(9, 0, 0));
        x.string(0, 120, 120, 50);
        x.pack(0, 1, 0, 60);
        x.pack(0, 1, 0, 60);
        x.lay(0, 0, 0, 0);
        x.lay(0, 0, 1, 1);
        x.hours(3);
        x.go(0, true);
        x.hours(8);
        tiredAre(x, "120 * 9 by 100 and 2, 8 times", 96, 16, 16);
        DUE.is("not lame", x.muleOf(0, 0, 2), 0);
        DUE.is("never lame", x.muleOf(0, 0, 7), -1);
        x.hours(1);
        tiredAre(x, "100 at most", 100, 18, 18);
        DUE.is("lame", x.muleOf(0, 0, 2), 1);
        DUE.is("lame since", x.muleOf(0, 0, 7), 11);
        DUE.is("its load stays", x.muleOf(0, 0, 3), 120);
        DUE.is("a lame one with a load", x.go(0, true), -4);
        x.down(0);
        x.down(1);
        DUE.is("a lame one without", x.go(0, true), 21);
        x.hours(9);
        tiredAre(x, "a lame one tires no more", 100, 36, 36);
        DUE.is("lame since, still", x.muleOf(0, 0, 7), 11);
        x.hours(19);
        tiredAre(x, "nearly", 5, 0, 0);
        DUE.is("still lame", x.muleOf(0, 0, 2), 1);
        x.hours(1);
        DUE.is("lame no more", x.muleOf(0, 0, 2), 0);
        DUE.is("went lame the latest time", x.muleOf(0, 0, 7), 11);
        for (int i = 0; i < 6; i++) {
            x.go(0, i % 2 == 1);
            x.hours(9);
        }
        DUE.is("lame again", x.muleOf(0, 1, 2), 1);
        DUE.is("lame again since", x.muleOf(0, 1, 7), x.muleOf(0, 2, 7));
        DUE.is("lame again, the hour", x.muleOf(0, 0, 7), 41 + 49);
    }

    private static void askWrongly() {
        MuleRoad x = Due.road(Due.leg(1, 0, 0));
        x.string(0, 50, 60, 70);
        int[][] others = {{-1, 0}, {1, 0}, {0, -1}, {0, 5}, {MOST, 0}, {0, LEAST}};
        for (int[] o : others) {
            DUE.is("stringOf(" + o[0] + ", " + o[1] + ")", x.stringOf(o[0], o[1]), -1);
        }
        int[][] wrong = {{-1, 0, 0}, {1, 0, 0}, {0, -1, 0}, {0, 3, 0}, {0, 0, -1}, {0, 0, 8}, {MOST, LEAST, MOST}};
        for (int[] o : wrong) {
            DUE.is("muleOf(" + o[0] + ", " + o[1] + ", " + o[2] + ")", x.muleOf(o[0], o[1], o[2]), -1);
        }
    }
}
