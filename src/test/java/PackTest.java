/** Promises 6 pack, 7 lay, 8 down, 19 of, 21 was. */
public final class PackTest {
    private static final Due DUE = new Due();
    private static final int MOST = Integer.MAX_VALUE;
    private static final int LEAST = Integer.MIN_VALUE;

    public static void main(String[] args) {
        come();
        lay();
        refusalsInOrder();
        layLame();
        down();
        of();
        heldBySnow();
        was();
        DUE.end();
    }

    private static void come() {
        MuleRoad x = Due.road(Due.leg(1, 0, 0), Due.leg(1, 0, 0));
        int[][] others = {{-1, 1, 0, 1}, {3, 1, 0, 1}, {0, -1, 0, 1}, {0, 3, 0, 1}, {1, 1, 0, 1}, {0, 1, -1, 1},
            {0, 1, 4, 1}, {0, 1, 0, 0}, {0, 1, 0, 61}, {MOST, LEAST, MOST, LEAST}};
        for (int[] o : others) {
            DUE.is("pack(" + o[0] + ", " + o[1] + ", " + o[2] + ", " + o[3] + ")", x.pack(o[0], o[1], o[2], o[3]), -1);
        }
        for (int i = 0; i < 100; i++) {
            DUE.is("pack " + i, x.pack(i % 3, (i + 1) % 3, i % 4, 1 + i % 60), i);
        }
        DUE.is("101st pack", x.pack(0, 1, 0, 1), -1);
        DUE.is("count(3)", x.count(3), 100);
        DUE.is("count(7)", x.count(7), 100);
    }

    private static void lay() {
        MuleRoad x = Due.road(Due.leg(1, 0, 0));
        x.string(0, 50, 120, 20);
        x.pack(0, 1, 0, 20);
        x.pack(0, 1, 1, 10);
        x.pack(0, 1, 3, 20);
        x.pack(0, 1, 3, 5);
        x.pack(1, 0, 0, 5);
        int[][] none = {{-1, 0, 0, 0}, {1, 0, 0, 0}, {0, -1, 0, 0}, {0, 3, 0, 0}, {0, 0, -1, 0}, {0, 0, 3, 0},
            {0, 0, 0, -1}, {0, 0, 0, 5}, {MOST, 0, 0, 0}, {0, LEAST, 0, 0}, {0, 0, MOST, 0}, {0, 0, 0, LEAST}};
        for (int[] o : none) {
            DUE.is("lay(" + o[0] + ", " + o[1] + ", " + o[2] + ", " + o[3] + ")", x.lay(o[0], o[1], o[2], o[3]), -1);
        }
        DUE.is("pack at another inn", x.lay(0, 0, 0, 4), -2);
        DUE.is("salt on top", x.lay(0, 0, 2, 0), -5);
        DUE.is("glass on the left", x.lay(0, 0, 0, 2), -5);
        DUE.is("glass on the right", x.lay(0, 0, 1, 2), -5);
        DUE.is("count(7) after refusals", x.count(7), 5);
        DUE.is("salt on the left", x.lay(0, 0, 0, 0), 20);
        DUE.is("it waits no more", x.lay(0, 1, 0, 0), -2);
        DUE.is("wire on the right", x.lay(0, 0, 1, 1), 30);
        DUE.is("glass on top, up to strength", x.lay(0, 0, 2, 2), 50);
        DUE.is("a second glass, too heavy", x.lay(0, 0, 2, 3), -4);
        DUE.is("down(1)", x.down(1), 0);
        DUE.is("a second glass", x.lay(0, 0, 2, 3), -5);
        int[] want = {50, 0, 0, 40, 20, 0, 2, -1};
        for (int what = 0; what < want.length; what++) {
            DUE.is("muleOf(0, 0, " + what + ")", x.muleOf(0, 0, what), want[what]);
        }
        DUE.is("stringOf(0, 4)", x.stringOf(0, 4), 2);
        DUE.is("glass down", x.down(2), 0);
        DUE.is("no pack on top then", x.muleOf(0, 0, 6), -1);
        DUE.is("the other glass", x.lay(0, 0, 2, 3), 25);
        DUE.is("pack 3 on top", x.muleOf(0, 0, 6), 3);
        DUE.is("glass on an empty one", x.lay(0, 2, 2, 2), 20);
        x.down(0);
        x.go(0, true);
        DUE.is("string on a leg, pack at the inn it left", x.lay(0, 1, 0, 1), -2);
    }

    private static void refusalsInOrder() {
        MuleRoad x = Due.road(Due.leg(1, 0, 0));
        x.string(0, 20, 50, 50);
        x.pack(0, 1, 3, 21);
        x.pack(1, 0, 3, 21);
        DUE.is("-1 ahead of -2", x.lay(0, 0, 3, 1), -1);
        DUE.is("-2 ahead of -4", x.lay(0, 0, 0, 1), -2);
        DUE.is("-4 ahead of -5", x.lay(0, 0, 0, 0), -4);
        DUE.is("-5 alone", x.lay(0, 1, 0, 0), -5);
    }

    private static void layLame() {
        MuleRoad x = Due.road(Due.leg(9, 9, 0));
        x.string(0, 120, 50, 50);
        x.pack(0, 1, 0, 60);
        x.pack(0, 1, 0, 60);
        x.pack(1, 0, 3, 60);
        x.pack(0, 1, 0, 1);
        x.lay(0, 0, 0, 0);
        x.lay(0, 0, 1, 1);
        x.go(0, true);
        x.hours(9);
        DUE.is("lame: muleOf(0, 0, 2)", x.muleOf(0, 0, 2), 1);
        DUE.is("lame and too heavy and no top", x.lay(0, 0, 0, 2), -3);
        DUE.is("elsewhere and lame", x.lay(0, 0, 0, 3), -2);
        DUE.is("another mule", x.lay(0, 1, 2, 2), -4);
        DUE.is("down from a lame one", x.down(0), 1);
    }

    private static void down() {
        MuleRoad x = Due.road(Due.leg(2, 0, 0), Due.leg(1, 0, 0));
        x.string(0, 60, 60, 60);
        x.pack(0, 1, 0, 10);
        x.pack(0, 2, 0, 10);
        int[] none = {-1, 2, MOST, LEAST};
        for (int n : none) {
            DUE.is("down(" + n + ")", x.down(n), -1);
        }
        DUE.is("down(0) that waits", x.down(0), -2);
        x.lay(0, 0, 0, 0);
        x.lay(0, 0, 1, 1);
        DUE.is("down where it was", x.down(0), 0);
        DUE.is("muleOf(0, 0, 4)", x.muleOf(0, 0, 4), 0);
        DUE.is("muleOf(0, 0, 5)", x.muleOf(0, 0, 5), 10);
        x.lay(0, 0, 0, 0);
        x.go(0, true);
        DUE.is("down on a leg", x.down(0), -3);
        x.hours(1);
        DUE.is("down still on the leg", x.down(0), -3);
        x.hours(1);
        DUE.is("down(0) there", x.down(0), 1);
        DUE.is("down(0) again", x.down(0), -2);
        DUE.is("a delivered one isn't laid", x.lay(0, 0, 0, 0), -2);
        DUE.is("down(1) on the way", x.down(1), 0);
        DUE.is("of(1, 3)", x.of(1, 3), 0);
        DUE.is("of(1, 4)", x.of(1, 4), 1);
        DUE.is("stringOf(0, 4)", x.stringOf(0, 4), 0);
        DUE.is("laid again", x.lay(0, 2, 1, 1), 10);
        DUE.is("of(1, 3)", x.of(1, 3), 1);
        DUE.is("of(1, 4)", x.of(1, 4), 0);
    }

    private static void of() {
        MuleRoad x = Due.road(Due.leg(1, 0, 0), Due.leg(1, 0, 0));
        x.string(0, 60, 60, 60);
        x.string(2, 60, 60, 60);
        x.pack(0, 1, 0, 1);
        x.hours(7);
        Due.tell(x, ":1;");
        x.pack(2, 0, 3, 60);
        int[] want = {3, 60, 0, 0, 2, 7, 0, 0};
        for (int what = 0; what < want.length; what++) {
            DUE.is("of(1, " + what + ")", x.of(1, what), want[what]);
        }
        DUE.is("of(0, 7) without a bargain", x.of(0, 7), -1);
        x.lay(1, 2, 2, 1);
        DUE.is("of(1, 3) on a mule", x.of(1, 3), 1);
        DUE.is("of(1, 4) its string", x.of(1, 4), 1);
        x.go(1, false);
        x.hours(1);
        x.go(1, false);
        x.hours(1);
        x.down(1);
        DUE.is("of(1, 3) delivered", x.of(1, 3), 2);
        DUE.is("of(1, 4) the inn", x.of(1, 4), 0);
        int[][] others = {{-1, 0}, {2, 0}, {0, -1}, {0, 8}, {MOST, 0}, {0, MOST}, {LEAST, LEAST}};
        for (int[] o : others) {
            DUE.is("of(" + o[0] + ", " + o[1] + ")", x.of(o[0], o[1]), -1);
        }
    }

    private static void heldBySnow() {
        MuleRoad x = Due.road(Due.leg(2, 0, 0), Due.leg(1, 0, 0), Due.leg(1, 0, 0));
        x.string(1, 60, 60, 60);
        x.pack(1, 0, 0, 5);
        x.pack(1, 2, 0, 5);
        x.pack(1, 3, 0, 5);
        x.pack(1, 3, 0, 5);
        x.pack(0, 3, 0, 5);
        x.lay(0, 0, 0, 2);
        x.lay(0, 1, 0, 0);
        x.snow(1, 1, 2);
        x.hours(1);
        heldAre(x, "hour 0", 0, 0, 0, 0, 0);
        x.hours(1);
        heldAre(x, "hour 1", 0, 1, 1, 1, 0);
        x.hours(1);
        heldAre(x, "hour 2", 0, 2, 2, 2, 0);
        x.hours(1);
        heldAre(x, "hour 3", 0, 2, 2, 2, 0);
        // Told in hour 4 of hours 0 to 5: what went already holds nobody.
        x.snow(0, 0, 5);
        x.go(0, true);
        x.hours(1);
        heldAre(x, "hour 4, string on a leg", 0, 2, 2, 2, 1);
        x.snow(2, 5, 6);
        x.snow(1, 5, 6);
        x.hours(1);
        heldAre(x, "hour 5, the string at inn 2", 1, 3, 3, 3, 2);
        x.go(0, false);
        DUE.is("it may not go: shut", x.stringOf(0, 1), -1);
        x.hours(2);
        heldAre(x, "two tellings of one hour hold once", 2, 4, 4, 4, 2);
        x.go(0, true);
        x.hours(1);
        DUE.is("string at the inn its pack is for", x.stringOf(0, 0), 3);
        x.snow(2, 0, 20);
        x.hours(1);
        DUE.is("a pack where it is for isn't held", x.of(2, 6), 4);
        x.down(2);
        x.hours(1);
        DUE.is("nor a delivered one", x.of(2, 6), 4);
        DUE.is("on that string another one for inn 0", x.of(0, 6), 4);
    }

    private static void heldAre(MuleRoad x, String when, int... want) {
        for (int i = 0; i < want.length; i++) {
            DUE.is(when + ": of(" + i + ", 6)", x.of(i, 6), want[i]);
        }
    }

    private static void was() {
        MuleRoad x = Due.road(Due.leg(2, 0, 0), Due.leg(1, 0, 0));
        x.string(2, 60, 60, 60);
        x.string(0, 60, 60, 60);
        x.hours(3);
        x.pack(0, 2, 0, 5);
        x.hours(2);
        x.lay(1, 0, 0, 0);
        DUE.is("now on the string", x.was(0, 5), 11);
        x.down(0);
        DUE.is("now at the inn", x.was(0, 5), 0);
        x.lay(1, 0, 0, 0);
        x.go(1, true);
        x.hours(2);
        x.down(0);
        x.hours(1);
        x.lay(1, 0, 0, 0);
        x.go(1, true);
        x.hours(1);
        x.down(0);
        x.hours(5);
        int[] want = {-1, -1, -1, 0, 0, 11, 11, 1, 11, 2, 2, 2, 2, 2, 2, -1};
        for (int h = 0; h < want.length; h++) {
            DUE.is("was(0, " + h + ")", x.was(0, h), want[h]);
        }
        DUE.is("was(0, -1)", x.was(0, -1), -1);
        DUE.is("was(-1, 3)", x.was(-1, 3), -1);
        DUE.is("was(1, 3)", x.was(1, 3), -1);
        DUE.is("was(0, MOST)", x.was(0, MOST), -1);
        DUE.is("was(LEAST, LEAST)", x.was(LEAST, LEAST), -1);
        manyMoves();
    }

    private static void manyMoves() {
        MuleRoad x = Due.road(Due.leg(1, 0, 0));
        x.string(0, 60, 60, 60);
        x.pack(0, 1, 0, 1);
        x.pack(0, 1, 0, 1);
        for (int i = 0; i < 250; i++) {
            x.lay(0, 0, 0, 0);
            x.down(0);
        }
        x.lay(0, 0, 0, 0);
        x.hours(1);
        DUE.is("was(0, 0) after 500 moves", x.was(0, 0), 10);
        DUE.is("was(1, 1) after 500 moves", x.was(1, 1), 0);
        // What is answered beyond the 512th call is free, but none may throw.
        for (int i = 0; i < 2000; i++) {
            x.lay(0, 1, 0, 1);
            x.down(1);
            x.was(1, 1);
        }
    }
}
