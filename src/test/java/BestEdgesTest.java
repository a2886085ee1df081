/** Boundary cases of promises 11 and 12, sentence by sentence. */
public final class BestEdgesTest {
    private static final Due DUE = new Due();
    private static final int MOST = Integer.MAX_VALUE;
    private static final int LEAST = Integer.MIN_VALUE;

    public static void main(String[] args) {
        noSuchOnes();
        onLeg();
        firstTen();
        firstTenOfThoseThatWait();
        noGlass();
        thatWaitThere();
        besideNothingElse();
        notAboveStrength();
        notMoreThanTenApart();
        greatestLoad();
        fewestPacks();
        leftAheadOfRight();
        aheadOfNotAtAll();
        notAmongThem();
        strengthOfItsMule();
        asksOnly();
        DUE.end();
    }

    private static MuleRoad with(int strength, int... weights) {
        MuleRoad x = Due.road(Due.leg(2, 0, 0));
        x.string(0, strength, strength, strength);
        for (int w : weights) {
            x.pack(0, 1, 0, w);
        }
        return x;
    }

    private static void bestIs(MuleRoad x, String of, int load, int... sides) {
        DUE.is(of + ": best(0, 0)", x.best(0, 0), load);
        for (int i = 0; i < sides.length; i++) {
            DUE.is(of + ": bestOf(0, 0, " + i + ")", x.bestOf(0, 0, i), sides[i]);
        }
    }

    private static void noSuchOnes() {
        DUE.sentence("11, 12: NONE: no such ones");
        MuleRoad y = Due.road();
        DUE.is("without strings: best(0, 0)", y.best(0, 0), -1);
        DUE.is("without strings: bestOf(0, 0, 0)", y.bestOf(0, 0, 0), -1);
        MuleRoad x = with(50, 5);
        int[][] none = {{-1, 0}, {1, 0}, {4, 0}, {MOST, 0}, {LEAST, 0}, {0, -1}, {0, 3}, {0, MOST}, {0, LEAST}};
        for (int[] o : none) {
            DUE.is("best(" + o[0] + ", " + o[1] + ")", x.best(o[0], o[1]), -1);
            DUE.is("bestOf(" + o[0] + ", " + o[1] + ", 0)", x.bestOf(o[0], o[1], 0), -1);
        }
        for (int pack : new int[] {-1, 1, 10, 100, MOST, LEAST}) {
            DUE.is("bestOf(0, 0, " + pack + ")", x.bestOf(0, 0, pack), -1);
        }
        DUE.is("best(0, 2)", x.best(0, 2), 5);
        DUE.is("bestOf(0, 2, 0)", x.bestOf(0, 2, 0), 0);
    }

    private static void onLeg() {
        DUE.sentence("11: NONE: the STRING is on a LEG");
        MuleRoad x = with(50, 5, 5);
        x.pack(1, 0, 0, 7);
        x.go(0, true);
        for (int hour = 0; hour < 2; hour++) {
            DUE.is("hour " + hour + ": best(0, 0)", x.best(0, 0), -1);
            for (int pack = 0; pack < 3; pack++) {
                DUE.is("hour " + hour + ": bestOf(0, 0, " + pack + ")", x.bestOf(0, 0, pack), -1);
            }
            x.hours(1);
        }
        bestIs(x, "there", 7, -1, -1, 0);
    }

    private static void firstTen() {
        DUE.sentence("of the first 10 by numbers of the PACKS");
        MuleRoad x = with(120);
        bestIs(x, "no pack", 0, -1);
        for (int n = 1; n <= 10; n++) {
            x.pack(0, 1, 0, 1);
            DUE.is(n + " packs: best", x.best(0, 0), n);
            DUE.is(n + " packs: the last", x.bestOf(0, 0, n - 1), 0);
        }
        x.pack(0, 1, 0, 1);
        DUE.is("11 packs: best", x.best(0, 0), 10);
        DUE.is("11 packs: the tenth", x.bestOf(0, 0, 9), 0);
        DUE.is("11 packs: the eleventh", x.bestOf(0, 0, 10), -1);
    }

    private static void firstTenOfThoseThatWait() {
        DUE.sentence("of the first 10 of the PACKS that WAIT there and are no glass");
        MuleRoad x = Due.road(Due.leg(1, 0, 0));
        x.string(0, 120, 120, 120);
        for (int i = 0; i < 12; i++) {
            x.pack(0, 1, 3, 1);
            x.pack(1, 0, 0, 1);
            x.pack(0, 1, i % 3, 1);
        }
        DUE.is("best(0, 0)", x.best(0, 0), 10);
        for (int i = 0; i < 36; i++) {
            DUE.is("bestOf(0, 0, " + i + ")", x.bestOf(0, 0, i), i % 3 == 2 && i <= 29 ? 0 : -1);
        }
        x.lay(0, 1, 0, 2);
        DUE.is("one is laid: bestOf(0, 0, 2)", x.bestOf(0, 0, 2), -1);
        DUE.is("one is laid: bestOf(0, 0, 32)", x.bestOf(0, 0, 32), 0);
        DUE.is("one is laid: bestOf(0, 0, 35)", x.bestOf(0, 0, 35), -1);
        x.down(2);
        DUE.is("it waits again, by its number: bestOf(0, 0, 2)", x.bestOf(0, 0, 2), 0);
        DUE.is("it waits again: bestOf(0, 0, 32)", x.bestOf(0, 0, 32), -1);
    }

    private static void noGlass() {
        DUE.sentence("PACKS that are no glass");
        MuleRoad x = with(50);
        x.pack(0, 1, 3, 5);
        bestIs(x, "glass", 0, -1);
        x.pack(0, 1, 2, 5);
        x.pack(0, 1, 1, 4);
        bestIs(x, "glass, mail, wire", 9, -1, 0, 0);
    }

    private static void thatWaitThere() {
        DUE.sentence("PACKS that WAIT there");
        MuleRoad x = with(50, 5, 6);
        x.lay(0, 0, 0, 0);
        bestIs(x, "one is on the mule", 6, -1, 0);
        x.go(0, true);
        x.hours(2);
        bestIs(x, "at the inn it is for, on the mule", 0, -1, -1);
        x.down(0);
        bestIs(x, "delivered there", 0, -1, -1);
    }

    private static void besideNothingElse() {
        DUE.sentence("beside nothing else");
        MuleRoad x = with(60, 30, 30, 30, 25);
        x.pack(0, 1, 3, 1);
        x.lay(0, 1, 2, 4);
        x.lay(0, 0, 0, 0);
        x.lay(0, 0, 1, 1);
        bestIs(x, "a full mule", 55, -1, -1, 0, 1);
        DUE.is("a mule with glass", x.best(0, 1), 55);
        DUE.is("an empty mule", x.best(0, 2), 55);
    }

    private static void notAboveStrength() {
        DUE.sentence("WEIGHTS together not above STRENGTH");
        bestIs(with(20, 10, 10), "20 of 20", 20, 0, 1);
        bestIs(with(20, 11, 10), "21 of 20", 10, 2, 0);
        bestIs(with(120, 60, 60), "120 of 120", 120, 0, 1);
        bestIs(with(119, 60, 60), "120 of 119", 0, 2, 2);
        bestIs(with(119, 60, 60, 59), "119 of 119", 119, 0, 2, 1);
    }

    private static void notMoreThanTenApart() {
        DUE.sentence("LEFT and RIGHT not more than 10 apart");
        bestIs(with(50, 10), "10", 10, 0);
        bestIs(with(50, 11), "11", 0, 2);
        bestIs(with(50, 20, 10), "20 and 10", 30, 0, 1);
        bestIs(with(50, 21, 10), "21 and 10", 10, 2, 0);
        bestIs(with(50, 10, 20), "10 and 20", 30, 0, 1);
        bestIs(with(50, 10, 21), "10 and 21", 10, 0, 2);
        bestIs(with(50, 9, 9, 28), "28 and 18", 46, 0, 0, 1);
        bestIs(with(50, 9, 9, 29), "29 and 18", 18, 0, 1, 2);
    }

    private static void greatestLoad() {
        DUE.sentence("the one of the greatest LOAD");
        bestIs(with(30, 9, 8, 7, 6), "all of 30", 30, 0, 0, 1, 1);
        bestIs(with(29, 10, 10, 10, 9), "29 of more", 29, 0, 1, 2, 0);
        bestIs(with(100, 60, 1, 1, 1), "a heavy one can't be balanced", 3, 2, 0, 0, 0);
        bestIs(with(20, 10, 1, 1, 1, 1, 1, 1, 1, 1, 1), "10 and 9", 19, 0, 0, 0, 0, 0, 1, 1, 1, 1, 1);
    }

    private static void fewestPacks() {
        DUE.sentence("of several the one of the fewest PACKS");
        bestIs(with(20, 5, 5, 5, 5, 10, 10), "two of six", 20, 2, 2, 2, 2, 0, 1);
        bestIs(with(20, 5, 5, 10, 5), "three of four", 20, 0, 0, 1, 2);
        bestIs(with(20, 1, 1, 1, 1, 1, 1, 1, 1, 15, 5), "10 apart", 20, 2, 2, 2, 2, 2, 2, 2, 2, 0, 1);
        bestIs(with(21, 7, 7, 7, 11, 10), "two for three", 21, 2, 2, 2, 0, 1);
    }

    private static void leftAheadOfRight() {
        DUE.sentence("the first, PACK by PACK, LEFT ahead of RIGHT");
        bestIs(with(50, 5), "one", 5, 0);
        bestIs(with(50, 5, 5), "both may be on the left", 10, 0, 0);
        bestIs(with(50, 5, 6), "11 on one side are too much", 11, 0, 1);
        bestIs(with(50, 6, 5, 5), "the last two can't both be left", 16, 0, 0, 1);
        bestIs(with(120, 30, 30, 30, 30), "30 each", 120, 0, 0, 1, 1);
        bestIs(with(120, 12, 12, 12, 12, 12, 12, 12, 12, 12, 12), "ten of 12", 120, 0, 0, 0, 0, 0, 1, 1, 1, 1, 1);
        bestIs(with(120, 5, 5, 5, 5, 5, 5), "ten apart", 30, 0, 0, 0, 0, 1, 1);
        bestIs(with(120, 1, 20, 7, 7, 7), "the second on the left, more on the right", 42, 0, 0, 1, 1, 1);
    }

    private static void aheadOfNotAtAll() {
        DUE.sentence("RIGHT ahead of not at all");
        bestIs(with(40, 20, 20, 20), "the first two", 40, 0, 1, 2);
        bestIs(with(20, 8, 8, 8), "two of three", 16, 0, 1, 2);
        bestIs(with(20, 10, 10, 10, 10), "two of four", 20, 0, 1, 2, 2);
        bestIs(with(30, 20, 10, 20, 10), "20 and 10", 30, 0, 1, 2, 2);
        bestIs(with(30, 10, 10, 10, 10), "three of four", 30, 0, 0, 1, 2);
    }

    private static void notAmongThem() {
        DUE.sentence("12: NONE: it isn't among those that are looked at; 2 not at all");
        MuleRoad x = with(20, 20, 15, 5, 60);
        x.pack(0, 1, 3, 5);
        x.pack(1, 0, 0, 5);
        bestIs(x, "all of them", 20, 2, 0, 1, 2, -1, -1, -1);
    }

    private static void strengthOfItsMule() {
        DUE.sentence("11: The best LOAD of a MULE");
        MuleRoad x = Due.road(Due.leg(1, 0, 0));
        x.string(0, 20, 50, 120);
        x.string(1, 120, 120, 120);
        for (int w : new int[] {60, 60, 25, 25, 10, 10}) {
            x.pack(0, 1, 0, w);
        }
        int[] loads = {20, 50, 120};
        int[][] sides = {{2, 2, 2, 2, 0, 1}, {2, 2, 0, 1, 2, 2}, {0, 1, 2, 2, 2, 2}};
        for (int mule = 0; mule < 3; mule++) {
            DUE.is("best(0, " + mule + ")", x.best(0, mule), loads[mule]);
            for (int i = 0; i < 6; i++) {
                DUE.is("bestOf(0, " + mule + ", " + i + ")", x.bestOf(0, mule, i), sides[mule][i]);
            }
            DUE.is("best(1, " + mule + ") at another inn", x.best(1, mule), 0);
        }
        // One mule's answers don't hang on which mule was asked for before.
        DUE.is("bestOf(0, 0, 4) again", x.bestOf(0, 0, 4), 0);
        DUE.is("bestOf(0, 2, 4) again", x.bestOf(0, 2, 4), 2);
    }

    private static void asksOnly() {
        DUE.sentence("11, 12: nothing is laid");
        MuleRoad x = with(20, 10, 10);
        x.best(0, 0);
        x.bestOf(0, 0, 1);
        DUE.is("count(7)", x.count(7), 2);
        DUE.is("stringOf(0, 4)", x.stringOf(0, 4), 0);
        DUE.is("muleOf(0, 0, 3)", x.muleOf(0, 0, 3), 0);
        DUE.is("of(0, 3)", x.of(0, 3), 0);
    }
}
