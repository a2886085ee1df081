/** Boundary cases of promises 6 to 8, 19 and 21, sentence by sentence. */
public final class PackEdgesTest {
    private static final Due DUE = new Due();
    private static final int MOST = Integer.MAX_VALUE;
    private static final int LEAST = Integer.MIN_VALUE;

    public static void main(String[] args) {
        innsOfPack();
        kinds();
        weights();
        hundredPacks();
        layNoSuch();
        layNotAtItsInn();
        layOnLame();
        layAboveStrength();
        layGlassAndTop();
        layFirstRefusal();
        layFromUnlikePlaces();
        downNoSuch();
        downNotOnMule();
        downOnLeg();
        downWaits();
        downIsDelivered();
        ofEach();
        ofNoOther();
        heldBothHoursToo();
        heldAsKnown();
        heldNextToItsInn();
        heldOnMuleAtInn();
        heldNotOnLeg();
        heldNotDelivered();
        wasBeforeItCame();
        wasNoSuch();
        wasAsHourEnded();
        wasOnEachString();
        was512Calls();
        DUE.end();
    }

    private static MuleRoad oneLeg() {
        return Due.road(Due.leg(1, 0, 0));
    }

    private static void innsOfPack() {
        DUE.sentence("6: NONE: no such INNS (unlike)");
        MuleRoad x = Due.road();
        DUE.is("with one inn: pack(0, 1)", x.pack(0, 1, 0, 5), -1);
        DUE.is("with one inn: pack(1, 0)", x.pack(1, 0, 0, 5), -1);
        DUE.is("with one inn: pack(0, 0)", x.pack(0, 0, 0, 5), -1);
        x.inn(1, 0, false);
        int[][] none = {{-1, 0}, {0, -1}, {2, 0}, {0, 2}, {0, 0}, {1, 1}, {MOST, 0}, {0, MOST}, {LEAST, 1}, {1, LEAST},
            {-1, -1}, {2, 2}};
        for (int[] o : none) {
            DUE.is("pack(" + o[0] + ", " + o[1] + ", 0, 5)", x.pack(o[0], o[1], 0, 5), -1);
        }
        DUE.is("count(3)", x.count(3), 0);
        DUE.is("pack(0, 1, 0, 5)", x.pack(0, 1, 0, 5), 0);
        DUE.is("pack(1, 0, 0, 5)", x.pack(1, 0, 0, 5), 1);
    }

    private static void kinds() {
        DUE.sentence("6: NONE: other numbers; a KIND (0 salt, 1 wire, 2 mail, 3 glass)");
        MuleRoad x = oneLeg();
        for (int kind : new int[] {-1, 4, MOST, LEAST}) {
            DUE.is("kind " + kind, x.pack(0, 1, kind, 5), -1);
        }
        DUE.is("count(3)", x.count(3), 0);
        for (int kind = 0; kind < 4; kind++) {
            DUE.is("kind " + kind, x.pack(0, 1, kind, 5), kind);
            DUE.is("of(" + kind + ", 0)", x.of(kind, 0), kind);
        }
    }

    private static void weights() {
        DUE.sentence("6: NONE: other numbers; a WEIGHT (1 to 60)");
        MuleRoad x = oneLeg();
        for (int kind = 0; kind < 4; kind++) {
            for (int weight : new int[] {0, -1, 61, MOST, LEAST}) {
                DUE.is("kind " + kind + ", weight " + weight, x.pack(0, 1, kind, weight), -1);
            }
        }
        DUE.is("count(3)", x.count(3), 0);
        DUE.is("weight 1", x.pack(0, 1, 0, 1), 0);
        DUE.is("weight 60", x.pack(0, 1, 0, 60), 1);
        DUE.is("of(0, 1)", x.of(0, 1), 1);
        DUE.is("of(1, 1)", x.of(1, 1), 60);
    }

    private static void hundredPacks() {
        DUE.sentence("6: NONE: 100 came");
        MuleRoad x = oneLeg();
        x.string(0, 60, 60, 60);
        for (int i = 0; i < 100; i++) {
            DUE.is("pack " + i, x.pack(0, 1, 0, 1 + i % 10), i);
            DUE.is("a refused one between", x.pack(0, 0, 0, 1), -1);
        }
        DUE.is("a 101st", x.pack(0, 1, 0, 1), -1);
        DUE.is("count(3)", x.count(3), 100);
        DUE.is("of(99, 1)", x.of(99, 1), 10);
        DUE.is("of(100, 1)", x.of(100, 1), -1);
        DUE.is("lay the last", x.lay(0, 0, 0, 99), 10);
        DUE.is("lay the one behind", x.lay(0, 0, 0, 100), -1);
        x.go(0, true);
        x.hours(1);
        DUE.is("the last is delivered", x.down(99), 1);
        DUE.is("100 came all the same", x.pack(0, 1, 0, 1), -1);
        DUE.is("was(99, 1)", x.was(99, 1), 1);
    }

    private static void layNoSuch() {
        DUE.sentence("LAY: -1 no such STRING, MULE, place, PACK");
        MuleRoad x = oneLeg();
        x.pack(0, 1, 0, 5);
        DUE.is("without a string", x.lay(0, 0, 0, 0), -1);
        x.string(0, 60, 60, 60);
        int[] good = {0, 0, 0, 0};
        int[] behind = {1, 3, 3, 1};
        for (int i = 0; i < 4; i++) {
            for (int other : new int[] {-1, behind[i], 100, MOST, LEAST}) {
                int[] o = good.clone();
                o[i] = other;
                DUE.is("lay(" + o[0] + ", " + o[1] + ", " + o[2] + ", " + o[3] + ")", x.lay(o[0], o[1], o[2], o[3]), -1);
            }
        }
        DUE.is("it waits still", x.of(0, 3), 0);
        DUE.is("nothing is on the string", x.stringOf(0, 4), 0);
    }

    private static void layNotAtItsInn() {
        DUE.sentence("LAY: -2 the STRING is not at the INN where the PACK WAITS");
        MuleRoad x = Due.road(Due.leg(2, 0, 0), Due.leg(1, 0, 0));
        x.string(0, 60, 60, 60);
        x.string(1, 60, 60, 60);
        x.pack(0, 1, 0, 5);
        x.pack(1, 0, 0, 5);
        x.pack(0, 2, 0, 5);
        DUE.is("at the inn it is for", x.lay(1, 0, 0, 0), -2);
        DUE.is("at another inn", x.lay(0, 0, 0, 1), -2);
        DUE.is("there", x.lay(0, 0, 0, 0), 5);
        DUE.is("on that mule already", x.lay(0, 0, 0, 0), -2);
        DUE.is("on another mule already", x.lay(0, 1, 1, 0), -2);
        DUE.is("on a mule elsewhere", x.lay(1, 0, 0, 0), -2);
        x.go(0, true);
        DUE.is("on a leg, it waits behind", x.lay(0, 0, 0, 2), -2);
        DUE.is("on a leg, it waits ahead", x.lay(0, 0, 0, 1), -2);
        DUE.is("on a leg, it is on the mule", x.lay(0, 0, 0, 0), -2);
        x.hours(1);
        DUE.is("on the leg still", x.lay(0, 0, 0, 1), -2);
        x.hours(1);
        DUE.is("there: the one that waits", x.lay(0, 0, 0, 1), 10);
        x.down(0);
        DUE.is("a delivered one", x.lay(0, 0, 0, 0), -2);
        DUE.is("a delivered one by another string there", x.lay(1, 0, 0, 0), -2);
    }

    /** String 0 at inn 1, its mule 0 lame under packs 0 and 1; mules 1 and 2 of strength 20 and 60. */
    private static MuleRoad withLame() {
        MuleRoad x = Due.road(Due.leg(9, 9, 0));
        x.string(0, 120, 20, 60);
        x.pack(0, 1, 0, 60);
        x.pack(0, 1, 0, 60);
        x.lay(0, 0, 0, 0);
        x.lay(0, 0, 1, 1);
        x.go(0, true);
        x.hours(9);
        return x;
    }

    private static void layOnLame() {
        DUE.sentence("LAY: -3 the MULE is LAME");
        MuleRoad x = withLame();
        x.down(0);
        x.down(1);
        x.pack(1, 0, 0, 5);
        x.pack(1, 0, 3, 5);
        DUE.is("muleOf(0, 0, 2)", x.muleOf(0, 0, 2), 1);
        DUE.is("salt", x.lay(0, 0, 0, 2), -3);
        DUE.is("glass", x.lay(0, 0, 2, 3), -3);
        DUE.is("on another mule", x.lay(0, 2, 0, 2), 5);
        x.down(2);
        x.hours(19);
        DUE.is("nearly rested", x.lay(0, 0, 0, 2), -3);
        x.hours(1);
        DUE.is("lame no more", x.lay(0, 0, 0, 2), 5);
    }

    private static void layAboveStrength() {
        DUE.sentence("LAY: -4 its LOAD would be above STRENGTH");
        MuleRoad x = oneLeg();
        x.string(0, 20, 21, 120);
        int[] kinds = {0, 0, 0, 3, 0, 3};
        int[] weights = {20, 21, 22, 60, 60, 1};
        for (int i = 0; i < 6; i++) {
            x.pack(0, 1, kinds[i], weights[i]);
        }
        DUE.is("21 on 20", x.lay(0, 0, 0, 1), -4);
        DUE.is("20 on 20", x.lay(0, 0, 0, 0), 20);
        DUE.is("1 more on top", x.lay(0, 0, 2, 5), -4);
        DUE.is("22 on 21", x.lay(0, 1, 1, 2), -4);
        DUE.is("21 on 21", x.lay(0, 1, 1, 1), 21);
        DUE.is("60 on top", x.lay(0, 2, 2, 3), 60);
        DUE.is("60 more on the left", x.lay(0, 2, 0, 4), 120);
        DUE.is("22 more on the right", x.lay(0, 2, 1, 2), -4);
        DUE.is("the top away", x.down(3), 0);
        DUE.is("22 on the right then", x.lay(0, 2, 1, 2), 82);
        DUE.is("60 on top are too much", x.lay(0, 2, 2, 3), -4);
        DUE.is("muleOf(0, 2, 3)", x.muleOf(0, 2, 3), 82);
    }

    private static void layGlassAndTop() {
        DUE.sentence("LAY: -5 glass that isn't laid on TOP, or what is no glass on TOP, or a second one there");
        MuleRoad x = oneLeg();
        x.string(0, 60, 60, 60);
        for (int kind = 0; kind < 4; kind++) {
            x.pack(0, 1, kind, 5);
        }
        x.pack(0, 1, 3, 6);
        DUE.is("glass on the left", x.lay(0, 0, 0, 3), -5);
        DUE.is("glass on the right", x.lay(0, 0, 1, 3), -5);
        for (int kind = 0; kind < 3; kind++) {
            DUE.is("kind " + kind + " on top", x.lay(0, 0, 2, kind), -5);
        }
        DUE.is("all wait", x.count(7), 5);
        DUE.is("glass on top", x.lay(0, 0, 2, 3), 5);
        DUE.is("a second one", x.lay(0, 0, 2, 4), -5);
        DUE.is("the first stays there", x.muleOf(0, 0, 6), 3);
        DUE.is("salt on top of glass", x.lay(0, 0, 2, 0), -5);
        DUE.is("a second one on another mule", x.lay(0, 1, 2, 4), 6);
        DUE.is("of(4, 3)", x.of(4, 3), 1);
        x.down(3);
        x.down(4);
        DUE.is("the other one, the first away", x.lay(0, 0, 2, 4), 6);
        DUE.is("more than one on the left", x.lay(0, 0, 0, 0), 11);
        DUE.is("more than one on the left", x.lay(0, 0, 0, 1), 16);
        DUE.is("on the right", x.lay(0, 0, 1, 2), 21);
        int[] want = {21, 10, 5, 4};
        for (int i = 0; i < 4; i++) {
            DUE.is("muleOf(0, 0, " + (3 + i) + ")", x.muleOf(0, 0, 3 + i), want[i]);
        }
    }

    private static void layFirstRefusal() {
        DUE.sentence("LAY: REFUSALS, the first that holds");
        MuleRoad x = withLame();
        x.pack(0, 1, 3, 60);
        x.pack(1, 0, 3, 60);
        x.pack(1, 0, 0, 60);
        x.pack(1, 0, 3, 10);
        x.pack(1, 0, 3, 11);
        DUE.is("-1 (string) ahead of -2", x.lay(1, 0, 0, 2), -1);
        DUE.is("-1 (mule) ahead of -2", x.lay(0, 3, 0, 2), -1);
        DUE.is("-1 (place) ahead of -2", x.lay(0, 0, 3, 2), -1);
        DUE.is("-1 (place) ahead of -3", x.lay(0, 0, 3, 4), -1);
        DUE.is("-1 (place) ahead of -4", x.lay(0, 1, 3, 4), -1);
        DUE.is("-1 (place) ahead of -5", x.lay(0, 2, -1, 3), -1);
        DUE.is("-2 ahead of -3", x.lay(0, 0, 0, 2), -2);
        DUE.is("-2 ahead of -4", x.lay(0, 1, 2, 2), -2);
        DUE.is("-2 ahead of -5", x.lay(0, 2, 0, 2), -2);
        DUE.is("-3 ahead of -4", x.lay(0, 0, 2, 3), -3);
        DUE.is("-3 ahead of -5", x.lay(0, 0, 0, 5), -3);
        DUE.is("-4 ahead of -5: glass on the left", x.lay(0, 1, 0, 3), -4);
        DUE.is("-4 ahead of -5: salt on top", x.lay(0, 1, 2, 4), -4);
        DUE.is("glass of 10 on top", x.lay(0, 1, 2, 5), 10);
        DUE.is("-4 ahead of -5: a second one", x.lay(0, 1, 2, 6), -4);
        x.down(5);
        x.down(0);
        x.down(1);
        DUE.is("-3 without a load", x.lay(0, 0, 2, 5), -3);
    }

    private static void layFromUnlikePlaces() {
        DUE.sentence("To LAY a WAITING PACK: the LOAD then");
        MuleRoad x = oneLeg();
        x.string(0, 60, 60, 60);
        x.string(0, 60, 60, 60);
        x.pack(0, 1, 0, 7);
        x.pack(0, 1, 1, 9);
        int[][] rows = {{0, 0, 0}, {0, 1, 1}, {0, 2, 0}, {1, 0, 1}, {1, 2, 1}};
        for (int[] r : rows) {
            String lay = "lay(" + r[0] + ", " + r[1] + ", " + r[2] + ", 0)";
            DUE.is(lay, x.lay(r[0], r[1], r[2], 0), 7);
            DUE.is(lay + ": muleOf 4", x.muleOf(r[0], r[1], 4), r[2] == 0 ? 7 : 0);
            DUE.is(lay + ": muleOf 5", x.muleOf(r[0], r[1], 5), r[2] == 1 ? 7 : 0);
            DUE.is(lay + ": stringOf 4", x.stringOf(r[0], 4), 1);
            DUE.is(lay + ": the other string", x.stringOf(1 - r[0], 4), 0);
            DUE.is(lay + ": of(0, 4)", x.of(0, 4), r[0]);
            DUE.is("down", x.down(0), 0);
            DUE.is("down: muleOf 3", x.muleOf(r[0], r[1], 3), 0);
        }
    }

    private static void downNoSuch() {
        DUE.sentence("8: -1 no such PACK");
        MuleRoad x = oneLeg();
        DUE.is("down(0) without packs", x.down(0), -1);
        x.pack(0, 1, 0, 5);
        for (int pack : new int[] {-1, 1, 99, 100, MOST, LEAST}) {
            DUE.is("down(" + pack + ")", x.down(pack), -1);
        }
    }

    private static void downNotOnMule() {
        DUE.sentence("8: -2 it isn't on a MULE");
        MuleRoad x = oneLeg();
        x.string(0, 60, 60, 60);
        x.pack(0, 1, 0, 5);
        DUE.is("it waits", x.down(0), -2);
        x.lay(0, 0, 0, 0);
        x.down(0);
        DUE.is("it waits again", x.down(0), -2);
        x.lay(0, 0, 0, 0);
        x.go(0, true);
        x.hours(1);
        x.down(0);
        DUE.is("it is delivered", x.down(0), -2);
        DUE.is("delivered once: count(8)", x.count(8), 1);
    }

    private static void downOnLeg() {
        DUE.sentence("8: -3 its STRING is on a LEG");
        MuleRoad x = Due.road(Due.leg(9, 0, 0));
        x.string(0, 60, 60, 60);
        x.pack(0, 1, 0, 5);
        x.lay(0, 0, 0, 0);
        x.go(0, true);
        for (int hour = 0; hour < 9; hour++) {
            DUE.is("in hour " + hour, x.down(0), -3);
            DUE.is("it stays: of(0, 3)", x.of(0, 3), 1);
            x.hours(1);
        }
        DUE.is("in hour 9", x.down(0), 1);
    }

    private static void downWaits() {
        DUE.sentence("To PUT DOWN a PACK: it WAITS at the INN where its STRING is");
        MuleRoad x = Due.road(Due.leg(1, 0, 0), Due.leg(1, 0, 0));
        x.string(0, 60, 60, 60);
        x.pack(0, 2, 0, 5);
        x.pack(0, 2, 3, 6);
        x.lay(0, 0, 0, 0);
        x.lay(0, 0, 2, 1);
        DUE.is("where it came", x.down(0), 0);
        DUE.is("of(0, 4)", x.of(0, 4), 0);
        DUE.is("the glass stays", x.muleOf(0, 0, 3), 6);
        x.lay(0, 0, 0, 0);
        x.go(0, true);
        x.hours(1);
        DUE.is("on the way", x.down(0), 0);
        DUE.is("of(0, 3)", x.of(0, 3), 0);
        DUE.is("of(0, 4)", x.of(0, 4), 1);
        DUE.is("count(7)", x.count(7), 1);
        DUE.is("count(8)", x.count(8), 0);
        DUE.is("glass on the way", x.down(1), 0);
        DUE.is("muleOf(0, 0, 6)", x.muleOf(0, 0, 6), -1);
        DUE.is("muleOf(0, 0, 3)", x.muleOf(0, 0, 3), 0);
        DUE.is("stringOf(0, 4)", x.stringOf(0, 4), 0);
        DUE.is("laid again from there", x.lay(0, 1, 1, 0), 5);
    }

    private static void downIsDelivered() {
        DUE.sentence("PUT DOWN: if that is the one it is for, it is DELIVERED");
        MuleRoad x = withLame();
        DUE.is("from a lame one", x.down(0), 1);
        DUE.is("of(0, 3)", x.of(0, 3), 2);
        DUE.is("of(0, 4)", x.of(0, 4), 1);
        DUE.is("the other one is on the mule", x.of(1, 3), 1);
        DUE.is("muleOf(0, 0, 4)", x.muleOf(0, 0, 4), 0);
        DUE.is("muleOf(0, 0, 5)", x.muleOf(0, 0, 5), 60);
        DUE.is("count(8)", x.count(8), 1);
        DUE.is("count(7)", x.count(7), 0);
        DUE.is("best looks at none", x.bestOf(0, 2, 0), -1);
        MuleRoad y = oneLeg();
        y.string(1, 60, 60, 60);
        y.pack(1, 0, 3, 5);
        y.lay(0, 0, 2, 0);
        y.go(0, false);
        y.hours(1);
        DUE.is("at inn 0", y.down(0), 1);
        DUE.is("of(0, 4)", y.of(0, 4), 0);
    }

    private static void ofEach() {
        DUE.sentence("19: of");
        MuleRoad x = Due.road(Due.leg(2, 0, 0), Due.leg(1, 0, 0));
        x.string(2, 60, 60, 60);
        x.string(0, 60, 60, 60);
        x.hours(6);
        x.pack(0, 2, 2, 9);
        x.snow(0, 6, 7);
        ofIs(x, "it waits", 2, 9, 2, 0, 0, 6, 0, -1);
        x.hours(1);
        Due.tell(x, ":4;");
        x.lay(1, 2, 1, 0);
        ofIs(x, "on a mule", 2, 9, 2, 1, 1, 6, 1, -1);
        x.hours(1);
        x.go(1, true);
        x.hours(1);
        ofIs(x, "on a leg", 2, 9, 2, 1, 1, 6, 2, -1);
        x.hours(1);
        x.down(0);
        ofIs(x, "it waits on the way", 2, 9, 2, 0, 1, 6, 2, -1);
        x.lay(1, 0, 0, 0);
        x.go(1, true);
        x.hours(1);
        x.down(0);
        ofIs(x, "delivered", 2, 9, 2, 2, 2, 6, 2, -1);
        x.pack(0, 1, 3, 60);
        DUE.is("of(1, 5)", x.of(1, 5), 11);
        DUE.is("of(1, 7)", x.of(1, 7), 0);
    }

    private static void ofIs(MuleRoad x, String when, int... want) {
        for (int what = 0; what < want.length; what++) {
            DUE.is(when + ": of(0, " + what + ")", x.of(0, what), want[what]);
        }
    }

    private static void ofNoOther() {
        DUE.sentence("19: NONE for others");
        MuleRoad x = oneLeg();
        x.pack(0, 1, 3, 60);
        for (int what = -1; what <= 8; what++) {
            for (int pack : new int[] {-1, 1, 100, MOST, LEAST}) {
                DUE.is("of(" + pack + ", " + what + ")", x.of(pack, what), -1);
            }
        }
        for (int what : new int[] {-1, 8, 9, MOST, LEAST}) {
            DUE.is("of(0, " + what + ")", x.of(0, what), -1);
        }
    }

    private static void heldBothHoursToo() {
        DUE.sentence("HELD by SNOW for one HOUR more, if the LEG is SHUT in that HOUR");
        MuleRoad x = oneLeg();
        x.pack(0, 1, 0, 5);
        x.snow(0, 2, 4);
        x.snow(0, 4, 4);
        int[] want = {0, 0, 1, 2, 3, 3, 3};
        for (int hour = 0; hour < want.length; hour++) {
            x.hours(1);
            DUE.is("hour " + hour + " went: of(0, 6)", x.of(0, 6), want[hour]);
        }
        MuleRoad y = oneLeg();
        y.pack(0, 1, 0, 5);
        y.snow(0, 2, 4);
        y.hours(100);
        DUE.is("in one call", y.of(0, 6), 3);
        y.snow(0, 0, 9999);
        y.hours(100);
        DUE.is("all of a hundred", y.of(0, 6), 103);
    }

    private static void heldAsKnown() {
        DUE.sentence("HELD: as known in it");
        MuleRoad x = oneLeg();
        x.pack(0, 1, 0, 5);
        x.hours(3);
        x.snow(0, 0, 3);
        DUE.is("hours that went already", x.of(0, 6), 0);
        x.pack(0, 1, 0, 5);
        x.hours(1);
        DUE.is("the hour in which it was told", x.of(0, 6), 1);
        DUE.is("and another pack", x.of(1, 6), 1);
        x.pack(0, 1, 0, 5);
        x.hours(1);
        DUE.is("a pack that came behind it", x.of(2, 6), 0);
    }

    private static void heldNextToItsInn() {
        DUE.sentence("HELD: the LEG next to that INN on its way to the one it is for");
        for (int leg = 0; leg < 5; leg++) {
            MuleRoad x = Due.road(Due.leg(1, 0, 0), Due.leg(1, 0, 0), Due.leg(1, 0, 0), Due.leg(1, 0, 0), Due.leg(1, 0, 0));
            x.snow(leg, 0, 0);
            int n = 0;
            for (int inn = 0; inn < 6; inn++) {
                for (int other = 0; other < 6; other++) {
                    n += x.pack(inn, other, 0, 1) == -1 ? 0 : 1;
                }
            }
            x.hours(1);
            for (int i = 0; i < n; i++) {
                int inn = x.of(i, 4);
                int next = x.of(i, 2) > inn ? inn : inn - 1;
                DUE.is("leg " + leg + ", from " + inn + " to " + x.of(i, 2), x.of(i, 6), next == leg ? 1 : 0);
            }
        }
    }

    private static void heldOnMuleAtInn() {
        DUE.sentence("HELD: WAITING, or on a MULE there");
        MuleRoad x = Due.road(Due.leg(1, 0, 0), Due.leg(1, 0, 0));
        x.string(1, 60, 60, 60);
        x.pack(1, 0, 0, 5);
        x.pack(1, 2, 0, 5);
        x.pack(1, 2, 3, 5);
        x.lay(0, 0, 0, 1);
        x.lay(0, 0, 2, 2);
        x.snow(1, 0, 1);
        x.hours(2);
        DUE.is("the other way", x.of(0, 6), 0);
        DUE.is("on the left", x.of(1, 6), 2);
        DUE.is("on top", x.of(2, 6), 2);
        x.go(0, true);
        x.hours(1);
        x.snow(1, 3, 3);
        x.hours(1);
        DUE.is("on a mule at the inn it is for", x.of(1, 6), 2);
    }

    private static void heldNotOnLeg() {
        DUE.sentence("HELD: STRINGS as they were as it began");
        MuleRoad x = Due.road(Due.leg(2, 0, 0), Due.leg(1, 0, 0));
        x.string(0, 60, 60, 60);
        x.pack(0, 2, 0, 5);
        x.lay(0, 0, 0, 0);
        x.go(0, true);
        x.snow(0, 0, 9);
        x.snow(1, 0, 2);
        x.hours(1);
        DUE.is("on the leg", x.of(0, 6), 0);
        x.hours(1);
        DUE.is("on the leg as its last hour began", x.of(0, 6), 0);
        x.hours(1);
        DUE.is("at the inn", x.of(0, 6), 1);
        x.go(0, true);
        x.snow(1, 3, 3);
        x.hours(1);
        DUE.is("gone, as the hour went", x.of(0, 6), 1);
    }

    private static void heldNotDelivered() {
        DUE.sentence("HELD: each PACK that isn't DELIVERED");
        MuleRoad x = Due.road(Due.leg(1, 0, 0), Due.leg(1, 0, 0));
        x.string(0, 60, 60, 60);
        x.pack(0, 1, 0, 5);
        x.lay(0, 0, 0, 0);
        x.go(0, true);
        x.hours(1);
        x.down(0);
        x.snow(0, 0, 9999);
        x.snow(1, 0, 9999);
        x.hours(50);
        DUE.is("of(0, 6)", x.of(0, 6), 0);
    }

    private static void wasBeforeItCame() {
        DUE.sentence("21: NONE: it had not come");
        MuleRoad x = oneLeg();
        x.pack(0, 1, 0, 5);
        x.hours(5);
        x.pack(1, 0, 0, 5);
        DUE.is("was(0, 0)", x.was(0, 0), 0);
        DUE.is("was(1, 0)", x.was(1, 0), -1);
        DUE.is("was(1, 4)", x.was(1, 4), -1);
        DUE.is("was(1, 5)", x.was(1, 5), 1);
    }

    private static void wasNoSuch() {
        DUE.sentence("21: HOUR (up to the one at hand); NONE: no such PACK, HOUR");
        MuleRoad x = oneLeg();
        DUE.is("without packs", x.was(0, 0), -1);
        x.pack(0, 1, 0, 5);
        x.hours(3);
        for (int hour : new int[] {-1, 4, 9999, 10000, MOST, LEAST}) {
            DUE.is("was(0, " + hour + ")", x.was(0, hour), -1);
        }
        for (int pack : new int[] {-1, 1, 100, MOST, LEAST}) {
            DUE.is("was(" + pack + ", 0)", x.was(pack, 0), -1);
        }
        DUE.is("was(0, 0)", x.was(0, 0), 0);
        DUE.is("was(0, 3)", x.was(0, 3), 0);
        x.hours(1);
        DUE.is("was(0, 4)", x.was(0, 4), 0);
    }

    private static void wasAsHourEnded() {
        DUE.sentence("21: Where a PACK was as an HOUR ended, or is now");
        MuleRoad x = Due.road(Due.leg(1, 0, 0), Due.leg(2, 0, 0));
        x.string(0, 60, 60, 60);
        x.string(0, 60, 60, 60);
        x.pack(0, 2, 0, 5);
        x.lay(0, 0, 0, 0);
        DUE.is("now on string 0", x.was(0, 0), 10);
        x.down(0);
        DUE.is("now at inn 0", x.was(0, 0), 0);
        x.lay(1, 0, 0, 0);
        DUE.is("now on string 1", x.was(0, 0), 11);
        x.go(1, true);
        x.hours(1);
        DUE.is("on the string, at inn 1", x.was(0, 1), 11);
        x.down(0);
        DUE.is("now at inn 1", x.was(0, 1), 1);
        DUE.is("as hour 0 ended", x.was(0, 0), 11);
        x.hours(2);
        x.lay(1, 0, 0, 0);
        x.go(1, true);
        x.hours(2);
        x.down(0);
        x.hours(1);
        int[] want = {11, 1, 1, 11, 11, 2, 2, -1};
        for (int hour = 0; hour < want.length; hour++) {
            DUE.is("was(0, " + hour + ")", x.was(0, hour), want[hour]);
        }
    }

    private static void wasOnEachString() {
        DUE.sentence("21: 0 to 5 WAITING at or DELIVERED to that INN, 10 and more on a STRING");
        MuleRoad x = Due.road(Due.leg(1, 0, 0), Due.leg(1, 0, 0), Due.leg(1, 0, 0), Due.leg(1, 0, 0), Due.leg(1, 0, 0));
        for (int i = 0; i < 6; i++) {
            x.pack(i, i == 5 ? 4 : i + 1, 0, 1);
            DUE.is("at inn " + i, x.was(i, 0), i);
        }
        for (int i = 0; i < 4; i++) {
            x.string(i, 50, 50, 50);
            x.lay(i, 0, 0, i);
            DUE.is("on string " + i, x.was(i, 0), 10 + i);
            x.go(i, true);
        }
        x.hours(1);
        for (int i = 0; i < 4; i++) {
            x.down(i);
            DUE.is("delivered to inn " + (i + 1), x.was(i, 1), i + 1);
        }
    }

    private static void was512Calls() {
        DUE.sentence("An object is used for at most 512 calls");
        MuleRoad x = oneLeg();
        x.string(0, 60, 60, 60);
        x.pack(0, 1, 0, 5);
        // Four calls so far; the 506 of this loop move the pack each, and the two behind it are the last.
        for (int i = 0; i < 253; i++) {
            x.lay(0, 0, 0, 0);
            x.down(0);
        }
        DUE.is("lay, the 511th call", x.lay(0, 0, 0, 0), 5);
        DUE.is("was, the 512th call", x.was(0, 0), 10);
    }
}
