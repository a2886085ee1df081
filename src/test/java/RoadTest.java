/** Promises 1 a new object, 2 inn, 3 string, 4 snow, 5 shut, 10 hours, 22 count. */
public final class RoadTest {
    private static final Due DUE = new Due();
    private static final int MOST = Integer.MAX_VALUE;
    private static final int LEAST = Integer.MIN_VALUE;

    public static void main(String[] args) {
        newObject();
        inns();
        strings();
        snow();
        shut();
        hours();
        counts();
        DUE.end();
    }

    private static void newObject() {
        MuleRoad x = new MuleRoad();
        for (int what = 0; what <= 9; what++) {
            DUE.is("new: count(" + what + ")", x.count(what), 0);
        }
        DUE.is("new: place()", x.place(), -1);
        DUE.is("new: string(0, 50, 50, 50)", x.string(0, 50, 50, 50), -1);
        DUE.is("new: snow(0, 0, 0)", x.snow(0, 0, 0), -1);
        DUE.is("new: shut(0, 0, 0)", x.shut(0, 0, 0), -1);
        DUE.is("new: pack(0, 1, 0, 1)", x.pack(0, 1, 0, 1), -1);
        DUE.is("new: was(0, 0)", x.was(0, 0), -1);
        DUE.is("new: brought(0)", Due.brought(x, 0), Due.THROWS);
    }

    private static void inns() {
        MuleRoad x = new MuleRoad();
        DUE.is("first inn(0, 0, true)", x.inn(0, 0, true), -1);
        DUE.is("first inn(0, 1, false)", x.inn(0, 1, false), -1);
        DUE.is("first inn(1, 0, false)", x.inn(1, 0, false), -1);
        DUE.is("first inn(0, 0, false)", x.inn(0, 0, false), 0);
        int[][] others = {{0, 0}, {10, 0}, {1, -1}, {1, 10}, {-1, 0}, {MOST, 0}, {1, LEAST}};
        for (int[] o : others) {
            DUE.is("inn(" + o[0] + ", " + o[1] + ", false)", x.inn(o[0], o[1], false), -1);
        }
        DUE.is("inn(1, 0, false)", x.inn(1, 0, false), 1);
        DUE.is("inn(9, 9, true)", x.inn(9, 9, true), 2);
        DUE.is("inn(1, 9, true)", x.inn(1, 9, true), 3);
        DUE.is("inn(9, 0, false)", x.inn(9, 0, false), 4);
        DUE.is("inn(5, 5, false)", x.inn(5, 5, false), 5);
        DUE.is("seventh inn", x.inn(5, 5, false), -1);
        DUE.is("count(1)", x.count(1), 6);
    }

    private static void strings() {
        MuleRoad x = Due.road(Due.leg(1, 0, 0));
        int[][] others = {{-1, 50, 50, 50}, {2, 50, 50, 50}, {0, 19, 50, 50}, {0, 121, 50, 50}, {0, 50, 19, 50},
            {0, 50, 121, 50}, {0, 50, 50, 19}, {0, 50, 50, 121}, {MOST, 50, 50, 50}, {0, LEAST, 50, MOST}};
        for (int[] o : others) {
            DUE.is("string(" + o[0] + ", " + o[1] + ", " + o[2] + ", " + o[3] + ")",
                x.string(o[0], o[1], o[2], o[3]), -1);
        }
        DUE.is("string(1, 20, 120, 70)", x.string(1, 20, 120, 70), 0);
        DUE.is("stringOf(0, 0)", x.stringOf(0, 0), 1);
        DUE.is("muleOf(0, 0, 0)", x.muleOf(0, 0, 0), 20);
        DUE.is("muleOf(0, 1, 0)", x.muleOf(0, 1, 0), 120);
        DUE.is("muleOf(0, 2, 0)", x.muleOf(0, 2, 0), 70);
        DUE.is("string 1", x.string(0, 50, 50, 50), 1);
        DUE.is("string 2", x.string(0, 50, 50, 50), 2);
        DUE.is("string 3", x.string(0, 50, 50, 50), 3);
        DUE.is("fifth string", x.string(0, 50, 50, 50), -1);
        DUE.is("count(2)", x.count(2), 4);
    }

    private static void snow() {
        MuleRoad x = Due.road(Due.leg(1, 0, 0), Due.leg(1, 0, 0));
        int[][] others = {{-1, 0, 0}, {2, 0, 0}, {0, -1, 0}, {0, 0, 10000}, {0, 10000, 10000}, {0, 5, 4}, {0, 0, -1},
            {MOST, 0, 0}, {0, LEAST, MOST}};
        for (int[] o : others) {
            DUE.is("snow(" + o[0] + ", " + o[1] + ", " + o[2] + ")", x.snow(o[0], o[1], o[2]), -1);
        }
        for (int i = 0; i < 60; i++) {
            DUE.is("telling " + i, x.snow(i % 2, 0, 9999), i);
        }
        DUE.is("61st telling", x.snow(0, 0, 0), -1);
        DUE.is("count(4)", x.count(4), 60);
    }

    private static void shut() {
        MuleRoad x = Due.road(Due.leg(1, 0, 0), Due.leg(1, 0, 0));
        x.snow(1, 3, 5);
        x.hours(4);
        x.snow(0, 2, 2);
        x.snow(1, 9999, 9999);
        int[][] rows = {{1, 2, 0, 0}, {1, 3, 0, 1}, {1, 5, 0, 1}, {1, 6, 0, 0}, {0, 4, 4, 0}, {0, 2, 3, 0}, {0, 2, 4, 1},
            {0, 1, 4, 0}, {0, 3, 4, 0}, {1, 9999, 3, 0}, {1, 9999, 4, 1}, {1, 4, 5, -1}, {1, 4, -1, -1},
            {1, -1, 0, -1}, {1, 10000, 0, -1}, {-1, 4, 0, -1}, {2, 4, 0, -1}, {MOST, 4, 0, -1}, {1, LEAST, MOST, -1}};
        for (int[] r : rows) {
            DUE.is("shut(" + r[0] + ", " + r[1] + ", " + r[2] + ")", x.shut(r[0], r[1], r[2]), r[3]);
        }
    }

    private static void hours() {
        MuleRoad x = new MuleRoad();
        int[] others = {0, -1, 101, MOST, LEAST};
        for (int n : others) {
            DUE.is("hours(" + n + ")", x.hours(n), -1);
        }
        DUE.is("hours(1)", x.hours(1), 1);
        DUE.is("hours(100)", x.hours(100), 101);
        Due.pass(x, 9800);
        DUE.is("hours(99) from 9901", x.hours(99), -1);
        DUE.is("nothing went", x.count(0), 9901);
        DUE.is("hours(98) from 9901", x.hours(98), 9999);
        DUE.is("hours(1) at the last", x.hours(1), -1);
        MuleRoad y = new MuleRoad();
        Due.pass(y, 9900);
        DUE.is("hours(100) from 9900", y.hours(100), -1);
        DUE.is("hours(99) from 9900", y.hours(99), 9999);
    }

    private static void counts() {
        MuleRoad x = Due.road(Due.leg(1, 0, 0), Due.leg(1, 0, 0));
        x.string(0, 60, 60, 60);
        Due.tell(x, "salt:-7;wire:30;");
        x.feed(0, 0, 0, 0, 0);
        x.snow(0, 50, 50);
        for (int kind = 0; kind < 3; kind++) {
            x.pack(0, 1, kind, 10);
            x.lay(0, kind, 0, kind);
        }
        x.pack(1, 0, 0, 10);
        x.go(0, true);
        x.hours(1);
        x.down(0);
        DUE.is("count(9) of one", x.count(9), -7);
        x.down(1);
        int[] want = {1, 3, 1, 4, 1, 1, 20, 1, 2, 23};
        for (int what = 0; what < want.length; what++) {
            DUE.is("count(" + what + ")", x.count(what), want[what]);
        }
        int[] others = {-1, 10, MOST, LEAST};
        for (int what : others) {
            DUE.is("count(" + what + ")", x.count(what), -1);
        }
    }
}
