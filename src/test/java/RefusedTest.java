import java.util.function.ToIntFunction;

/** A refused call changes nothing, and neither does one that asks: the state is told before and after it. */
public final class RefusedTest {
    private static final Due DUE = new Due();
    private static final int MOST = Integer.MAX_VALUE;
    private static final int LEAST = Integer.MIN_VALUE;
    private static final int[] WILD = {LEAST, -2, -1, MOST};

    public static void main(String[] args) {
        innsAndStrings();
        snowAndHours();
        packs();
        lays();
        downs();
        goes();
        tapes();
        fullOnes();
        questions();
        DUE.end();
    }

    /** In hour 10, with a tape and a fault's place: string 2 came to inn 2 with a lame mule, string 0 to inn 1. */
    private static MuleRoad rich() {
        MuleRoad x = Due.road(Due.leg(9, 5, 1), Due.leg(9, 9, 0));
        x.string(0, 50, 20, 120);
        x.string(1, 60, 60, 60);
        x.string(1, 60, 60, 120);
        Due.tell(x, ":5;");
        x.pack(0, 2, 0, 10);
        x.pack(0, 1, 3, 10);
        x.pack(1, 0, 0, 60);
        x.pack(1, 0, 1, 60);
        x.pack(0, 1, 1, 20);
        x.pack(0, 1, 2, 5);
        x.pack(2, 0, 0, 9);
        x.pack(0, 1, 3, 7);
        x.pack(0, 1, 0, 60);
        x.lay(2, 2, 0, 2);
        x.lay(2, 2, 1, 3);
        x.go(2, true);
        x.lay(0, 0, 0, 5);
        x.go(0, true);
        x.hours(9);
        x.down(5);
        x.snow(1, 9, 30);
        x.hours(1);
        Due.tell(x, "  !");
        Due.feed(x, new byte[] {':', '1', ';', ' ', ' '});
        return x;
    }

    /**
     * In hour 20: string 0 at inn 0 with packs 0 (left) and 1 (top) on mule 0, string 1 on the ledge, leg 0, string 2 at
     * inn 2, its mule 2 lame under packs 2 and 3; packs 4, 7 (glass) and 8 (heavy) wait at inn 0, pack 6 at inn 2, pack 5
     * is delivered to inn 1; leg 1 is shut.
     */
    private static MuleRoad richer() {
        MuleRoad x = rich();
        x.go(0, false);
        x.hours(9);
        x.lay(0, 0, 0, 0);
        x.lay(0, 0, 2, 1);
        x.go(1, false);
        x.hours(1);
        return x;
    }

    private static String state(MuleRoad x) {
        StringBuilder told = new StringBuilder();
        for (int what = 0; what < 10; what++) {
            told.append(" count ").append(x.count(what));
        }
        told.append(" place ").append(x.place());
        for (int string = 0; string < x.count(2); string++) {
            for (int what = 0; what < 5; what++) {
                told.append(" stringOf ").append(x.stringOf(string, what));
            }
            for (int mule = 0; mule < 3; mule++) {
                for (int what = 1; what < 8; what++) {
                    told.append(" muleOf ").append(x.muleOf(string, mule, what));
                }
            }
        }
        for (int pack = 0; pack < Math.min(10, x.count(3)); pack++) {
            for (int what = 2; what < 8; what++) {
                told.append(" of ").append(x.of(pack, what));
            }
            told.append(" was ").append(x.was(pack, x.count(0))).append(' ').append(x.was(pack, 0));
            told.append(" brought ").append(Due.brought(x, pack));
        }
        for (int leg = 0; leg < x.count(1) - 1; leg++) {
            told.append(" shut ").append(x.shut(leg, x.count(0), x.count(0))).append(x.shut(leg, 9999, x.count(0)));
        }
        // Changes the state, so it comes last: what the tape holds, and whether there is room for one more bargain.
        told.append(" bargain ").append(x.bargain()).append(' ').append(x.place());
        return told.toString();
    }

    private static void refused(String call, ToIntFunction<MuleRoad> made, int want) {
        String before = state(richer());
        MuleRoad x = richer();
        DUE.is(call, made.applyAsInt(x), want);
        same(call, before, state(x));
    }

    private static void same(String call, String before, String after) {
        DUE.is(call + " changes nothing:\n" + before + "\n" + after + "\n", before.equals(after) ? 0 : 1, 0);
    }

    private static void innsAndStrings() {
        DUE.sentence("2, 3: NONE");
        for (int n : new int[] {LEAST, -1, 0, 10, MOST}) {
            refused("inn(" + n + ", 5, true)", x -> x.inn(n, 5, true), -1);
        }
        for (int n : new int[] {LEAST, -1, 10, MOST}) {
            refused("inn(5, " + n + ", true)", x -> x.inn(5, n, true), -1);
        }
        for (int n : new int[] {LEAST, -1, 3, MOST}) {
            refused("string(" + n + ", 50, 50, 50)", x -> x.string(n, 50, 50, 50), -1);
        }
        for (int n : new int[] {LEAST, 19, 121, MOST}) {
            refused("string(0, " + n + ", 50, 50)", x -> x.string(0, n, 50, 50), -1);
            refused("string(0, 50, " + n + ", 50)", x -> x.string(0, 50, n, 50), -1);
            refused("string(0, 50, 50, " + n + ")", x -> x.string(0, 50, 50, n), -1);
        }
    }

    private static void snowAndHours() {
        DUE.sentence("4, 10: NONE");
        for (int n : new int[] {LEAST, -1, 2, MOST}) {
            refused("snow(" + n + ", 0, 9999)", x -> x.snow(n, 0, 9999), -1);
        }
        for (int n : new int[] {LEAST, -1, 10000, MOST}) {
            refused("snow(0, " + n + ", 9999)", x -> x.snow(0, n, 9999), -1);
            refused("snow(0, 0, " + n + ")", x -> x.snow(0, 0, n), -1);
        }
        refused("snow(0, 9999, 9998)", x -> x.snow(0, 9999, 9998), -1);
        for (int n : new int[] {LEAST, -1, 0, 101, MOST}) {
            refused("hours(" + n + ")", x -> x.hours(n), -1);
        }
    }

    private static void packs() {
        DUE.sentence("6: NONE");
        for (int n : new int[] {LEAST, -1, 3, MOST}) {
            refused("pack(" + n + ", 1, 0, 1)", x -> x.pack(n, 1, 0, 1), -1);
            refused("pack(1, " + n + ", 0, 1)", x -> x.pack(1, n, 0, 1), -1);
        }
        refused("pack(1, 1, 0, 1)", x -> x.pack(1, 1, 0, 1), -1);
        for (int n : new int[] {LEAST, -1, 4, MOST}) {
            refused("pack(0, 1, " + n + ", 1)", x -> x.pack(0, 1, n, 1), -1);
        }
        for (int n : new int[] {LEAST, 0, 61, MOST}) {
            refused("pack(0, 1, 0, " + n + ")", x -> x.pack(0, 1, 0, n), -1);
        }
    }

    private static void lays() {
        DUE.sentence("7: REFUSALS");
        for (int n : WILD) {
            refused("lay(" + n + ", 0, 1, 4)", x -> x.lay(n, 0, 1, 4), -1);
            refused("lay(0, " + n + ", 1, 4)", x -> x.lay(0, n, 1, 4), -1);
            refused("lay(0, 0, " + n + ", 4)", x -> x.lay(0, 0, n, 4), -1);
            refused("lay(0, 0, 1, " + n + ")", x -> x.lay(0, 0, 1, n), -1);
        }
        refused("lay(3, 0, 1, 4)", x -> x.lay(3, 0, 1, 4), -1);
        refused("lay(0, 3, 1, 4)", x -> x.lay(0, 3, 1, 4), -1);
        refused("lay(0, 0, 3, 4)", x -> x.lay(0, 0, 3, 4), -1);
        refused("lay(0, 0, 1, 9)", x -> x.lay(0, 0, 1, 9), -1);
        refused("lay(0, 0, 1, 6), it waits elsewhere", x -> x.lay(0, 0, 1, 6), -2);
        refused("lay(0, 0, 1, 0), it is on that mule", x -> x.lay(0, 0, 1, 0), -2);
        refused("lay(0, 2, 1, 2), it is on a mule elsewhere", x -> x.lay(0, 2, 1, 2), -2);
        refused("lay(0, 0, 1, 5), it is delivered", x -> x.lay(0, 0, 1, 5), -2);
        refused("lay(1, 0, 1, 4), the string is on a leg", x -> x.lay(1, 0, 1, 4), -2);
        refused("lay(2, 2, 0, 6), the mule is lame", x -> x.lay(2, 2, 0, 6), -3);
        refused("lay(0, 1, 0, 8), too heavy", x -> x.lay(0, 1, 0, 8), -4);
        refused("lay(0, 0, 0, 8), too heavy beside its load", x -> x.lay(0, 0, 0, 8), -4);
        refused("lay(0, 2, 0, 7), glass", x -> x.lay(0, 2, 0, 7), -5);
        refused("lay(0, 2, 1, 7), glass", x -> x.lay(0, 2, 1, 7), -5);
        refused("lay(0, 2, 2, 4), no glass", x -> x.lay(0, 2, 2, 4), -5);
        refused("lay(0, 0, 2, 7), a second one", x -> x.lay(0, 0, 2, 7), -5);
    }

    private static void downs() {
        DUE.sentence("8: -1, -2, -3");
        for (int n : WILD) {
            refused("down(" + n + ")", x -> x.down(n), -1);
        }
        refused("down(9)", x -> x.down(9), -1);
        refused("down(4), it waits", x -> x.down(4), -2);
        refused("down(5), it is delivered", x -> x.down(5), -2);
        String before = gone(x -> -3);
        DUE.is("down on a leg changes nothing", before.equals(gone(x -> x.down(0))) ? 0 : 1, 0);
    }

    /** The state of a string on a leg with packs, behind a call. */
    private static String gone(ToIntFunction<MuleRoad> made) {
        MuleRoad x = richer();
        x.hours(8);
        x.go(0, true);
        x.hours(1);
        DUE.is("the string is on a leg", x.stringOf(0, 1), 0);
        DUE.is("down(0)", made.applyAsInt(x), -3);
        return state(x);
    }

    private static void goes() {
        DUE.sentence("9: REFUSALS");
        for (int n : WILD) {
            refused("go(" + n + ", true)", x -> x.go(n, true), -1);
            refused("go(" + n + ", false)", x -> x.go(n, false), -1);
        }
        refused("go(3, true)", x -> x.go(3, true), -1);
        refused("go(1, true), on a leg", x -> x.go(1, true), -2);
        refused("go(1, false), on a leg", x -> x.go(1, false), -2);
        refused("go(0, false), no leg", x -> x.go(0, false), -3);
        refused("go(2, true), no leg", x -> x.go(2, true), -3);
        refused("go(2, false), lame with a load", x -> x.go(2, false), -4);
        refused("go(0, true), a ledge", x -> x.go(0, true), -6);
        String before = unloaded(x -> -5);
        DUE.is("go of a shut leg changes nothing", before.equals(unloaded(x -> x.go(2, false))) ? 0 : 1, 0);
        before = apart(x -> -4);
        DUE.is("go of sides apart changes nothing", before.equals(apart(x -> x.go(0, true))) ? 0 : 1, 0);
    }

    private static String unloaded(ToIntFunction<MuleRoad> made) {
        MuleRoad x = richer();
        x.down(2);
        x.down(3);
        DUE.is("go(2, false)", made.applyAsInt(x), -5);
        return state(x);
    }

    private static String apart(ToIntFunction<MuleRoad> made) {
        MuleRoad x = richer();
        x.lay(0, 2, 0, 4);
        DUE.is("go(0, true)", made.applyAsInt(x), -4);
        return state(x);
    }

    private static void tapes() {
        DUE.sentence("14: NONE");
        for (int n : new int[] {LEAST, -1, 6, 400, MOST}) {
            refused("end(" + n + ")", x -> x.end(n), -1);
        }
    }

    private static void fullOnes() {
        DUE.sentence("2, 3, 4, 13, 15: as many as may be are there");
        String before = full(x -> -1);
        DUE.is("inn", before.equals(full(x -> x.inn(1, 1, false))) ? 0 : 1, 0);
        DUE.is("string", before.equals(full(x -> x.string(0, 50, 50, 50))) ? 0 : 1, 0);
        DUE.is("snow", before.equals(full(x -> x.snow(0, 0, 9999))) ? 0 : 1, 0);
        DUE.is("feed", before.equals(full(x -> x.feed(1, 2, 3, 4, 5))) ? 0 : 1, 0);
        DUE.is("bargain", before.equals(full(MuleRoad::bargain)) ? 0 : 1, 0);
        DUE.sentence("6: 100 came");
        before = hundred(x -> -1);
        DUE.is("pack", before.equals(hundred(x -> x.pack(0, 1, 0, 1))) ? 0 : 1, 0);
        DUE.sentence("10: there would be more than 9999");
        before = late(x -> -1);
        DUE.is("hours", before.equals(late(x -> x.hours(100))) ? 0 : 1, 0);
    }

    private static String full(ToIntFunction<MuleRoad> made) {
        MuleRoad x = Due.road(Due.leg(1, 0, 0), Due.leg(1, 0, 0), Due.leg(1, 0, 0), Due.leg(1, 0, 0), Due.leg(1, 0, 0));
        for (int i = 0; i < 4; i++) {
            x.string(i, 50, 50, 50);
        }
        for (int i = 0; i < 60; i++) {
            x.snow(i % 5, i, i);
        }
        for (int i = 0; i < 10; i++) {
            Due.tell(x, ":1;");
        }
        Due.feed(x, new byte[381]);
        DUE.is("one more", made.applyAsInt(x), -1);
        return state(x);
    }

    private static String hundred(ToIntFunction<MuleRoad> made) {
        MuleRoad x = Due.road(Due.leg(1, 0, 0));
        x.string(0, 50, 50, 50);
        for (int i = 0; i < 100; i++) {
            x.pack(0, 1, i % 4, 1 + i % 60);
        }
        DUE.is("one more", made.applyAsInt(x), -1);
        return state(x);
    }

    private static String late(ToIntFunction<MuleRoad> made) {
        MuleRoad x = Due.road(Due.leg(9, 9, 0));
        x.string(0, 50, 50, 50);
        Due.pass(x, 9900);
        x.go(0, true);
        x.pack(0, 1, 0, 5);
        x.snow(0, 9900, 9999);
        DUE.is("a hundred more", made.applyAsInt(x), -1);
        return state(x);
    }

    private static void questions() {
        DUE.sentence("5, 11, 12, 16 to 22: they ask");
        String before = state(richer());
        MuleRoad x = richer();
        for (int n = -1; n < 4; n++) {
            x.shut(n, n, n);
            x.best(n, n);
            x.bestOf(n, n, 4);
            x.bestOf(0, n, n);
            x.place();
            x.stringOf(n, n + 1);
            x.muleOf(n, n, n + 4);
            x.of(n, n + 4);
            x.was(n, n);
            x.count(n + 5);
            Due.brought(x, n);
        }
        same("questions", before, state(x));
    }
}
