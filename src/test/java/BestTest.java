import java.util.Random;

/** Promises 11 best, 12 bestOf. */
public final class BestTest {
    private static final Due DUE = new Due();
    private static final int MOST = Integer.MAX_VALUE;
    private static final int LEAST = Integer.MIN_VALUE;

    public static void main(String[] args) {
        nothing();
        ties();
        firstTen();
        besideNothing();
        heavyLooks();
        againstAllOfThem();
        DUE.end();
    }

    private static MuleRoad with(int strength, int... weights) {
        MuleRoad x = Due.road(Due.leg(1, 0, 0));
        x.string(0, strength, strength, strength);
        for (int w : weights) {
            x.pack(0, 1, 0, w);
        }
        return x;
    }

    private static void bestIs(MuleRoad x, String of, int load, int... sides) {
        DUE.is(of + ": best(0, 0)", x.best(0, 0), load);
        for (int i = 0; i < sides.length; i++) {
            DUE.is(of + ": bestOf(0, 0, " + i + ")", x.bestOf(0, 0, i), sides[i]);
        }
    }

    private static void nothing() {
        MuleRoad x = with(50);
        bestIs(x, "no pack", 0, -1);
        int[][] none = {{-1, 0}, {1, 0}, {0, -1}, {0, 3}, {MOST, 0}, {0, LEAST}};
        for (int[] o : none) {
            DUE.is("best(" + o[0] + ", " + o[1] + ")", x.best(o[0], o[1]), -1);
            DUE.is("bestOf(" + o[0] + ", " + o[1] + ", 0)", x.bestOf(o[0], o[1], 0), -1);
        }
        x.pack(0, 1, 3, 5);
        bestIs(x, "glass alone", 0, -1);
        x.pack(1, 0, 0, 5);
        bestIs(x, "a pack elsewhere", 0, -1, -1, -1);
        x.pack(0, 1, 0, 11);
        bestIs(x, "one that doesn't balance", 0, -1, -1, 2);
        x.pack(0, 1, 2, 10);
        bestIs(x, "two", 21, -1, -1, 0, 1);
        DUE.is("bestOf(0, 0, -1)", x.bestOf(0, 0, -1), -1);
        DUE.is("bestOf(0, 0, 4)", x.bestOf(0, 0, 4), -1);
        DUE.is("bestOf(0, 0, MOST)", x.bestOf(0, 0, MOST), -1);
        x.go(0, true);
        DUE.is("on a leg: best(0, 0)", x.best(0, 0), -1);
        DUE.is("on a leg: bestOf(0, 0, 2)", x.bestOf(0, 0, 2), -1);
        x.hours(1);
        DUE.is("at the other inn: best(0, 0)", x.best(0, 0), 5);
        DUE.is("at the other inn: bestOf(0, 0, 1)", x.bestOf(0, 0, 1), 0);
        DUE.is("at the other inn: bestOf(0, 0, 2)", x.bestOf(0, 0, 2), -1);
    }

    private static void ties() {
        bestIs(with(20, 10), "ten alone", 10, 0);
        bestIs(with(20, 10, 10), "two tens", 20, 0, 1);
        bestIs(with(20, 5, 5, 10, 10), "fewest packs", 20, 2, 2, 0, 1);
        bestIs(with(40, 20, 20, 20), "the first packs", 40, 0, 1, 2);
        bestIs(with(20, 5, 5, 5, 5), "left as often as it may be", 20, 0, 0, 0, 1);
        bestIs(with(120, 60, 50, 30, 30, 25, 15), "the test's", 120, 0, 2, 1, 1, 2, 2);
        bestIs(with(20, 21, 20), "too heavy, and not balanced", 0, 2, 2);
        bestIs(with(31, 10, 21), "11 apart", 10, 0, 2);
        bestIs(with(30, 10, 20), "10 apart", 30, 0, 1);
        bestIs(with(29, 10, 20), "above strength", 10, 0, 2);
    }

    private static void firstTen() {
        MuleRoad x = with(120, 1, 1, 1, 1, 1, 1, 1, 1, 1, 1, 60, 60);
        bestIs(x, "twelve", 10, 0, 0, 0, 0, 0, 0, 0, 0, 0, 0, -1, -1);
        x.lay(0, 1, 0, 3);
        DUE.is("one is gone: bestOf(0, 0, 3)", x.bestOf(0, 0, 3), -1);
        DUE.is("one is gone: bestOf(0, 0, 10)", x.bestOf(0, 0, 10), 2);
        DUE.is("one is gone: bestOf(0, 0, 11)", x.bestOf(0, 0, 11), -1);
        x.lay(0, 1, 0, 0);
        DUE.is("two are gone: best(0, 0)", x.best(0, 0), 120);
        DUE.is("two are gone: bestOf(0, 0, 1)", x.bestOf(0, 0, 1), 2);
        DUE.is("two are gone: bestOf(0, 0, 10)", x.bestOf(0, 0, 10), 0);
        DUE.is("two are gone: bestOf(0, 0, 11)", x.bestOf(0, 0, 11), 1);
    }

    private static void besideNothing() {
        MuleRoad x = with(60, 30, 30, 30, 30);
        x.lay(0, 0, 0, 0);
        x.lay(0, 0, 1, 1);
        DUE.is("a mule with a load: best(0, 0)", x.best(0, 0), 60);
        DUE.is("a mule with a load: bestOf(0, 0, 0)", x.bestOf(0, 0, 0), -1);
        DUE.is("a mule with a load: bestOf(0, 0, 3)", x.bestOf(0, 0, 3), 1);
        DUE.is("it lays nothing: count(7)", x.count(7), 2);
    }

    /** All of the calls of one object, each with the dearest look that is known. */
    private static void heavyLooks() {
        MuleRoad x = with(119, 12, 12, 12, 12, 12, 12, 12, 12, 12, 12);
        for (int i = 0; i < 500; i++) {
            DUE.is("best of even weights", x.best(0, 0), 96);
        }
    }

    private static void againstAllOfThem() {
        Random random = new Random(7);
        for (int run = 0; run < 400; run++) {
            int strength = 20 + random.nextInt(101);
            int most = 1 + random.nextInt(run % 2 == 0 ? 60 : 15);
            int[] weights = new int[1 + random.nextInt(run % 8 == 0 ? 10 : 7)];
            StringBuilder of = new StringBuilder("strength " + strength + ", weights");
            for (int i = 0; i < weights.length; i++) {
                weights[i] = 1 + random.nextInt(most);
                of.append(' ').append(weights[i]);
            }
            int[] want = PlainRoad.bestOfAll(strength, weights);
            int load = 0;
            for (int i = 0; i < weights.length; i++) {
                load += want[i] == 2 ? 0 : weights[i];
            }
            bestIs(with(strength, weights), of.toString(), load, want);
        }
    }
}
