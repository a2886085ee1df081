/** Boundary cases of promises 9, 10 (what an HOUR does to STRINGS), 17 and 18, sentence by sentence. */
public final class TrainEdgesTest {
    private static final Due DUE = new Due();
    private static final int MOST = Integer.MAX_VALUE;
    private static final int LEAST = Integer.MIN_VALUE;

    public static void main(String[] args) {
        goNoSuch();
        goOnLeg();
        goNoSuchLeg();
        goDiffers();
        goLameWithLoad();
        goShut();
        goLedge();
        goFirstRefusal();
        goForAsManyHours();
        thereFromNextHourOn();
        tiresByTwo();
        tiresByLoadAndClimb();
        tiresHundredAtMost();
        lameAtHundred();
        lameTiresNoMore();
        restsByFive();
        lameNoMoreAtZero();
        unlikeMulesOfOneString();
        stringOfEach();
        stringOfNoOther();
        muleOfEach();
        muleOfWentLame();
        muleOfNoOther();
        DUE.end();
    }

    /** Strings at inn 0 of a road of these legs. */
    private static MuleRoad withStrings(int strings, int[]... legs) {
        MuleRoad x = Due.road(legs);
        for (int i = 0; i < strings; i++) {
            x.string(0, 120, 120, 120);
        }
        return x;
    }

    private static void load(MuleRoad x, int mule, int place, int weight) {
        int pack = x.pack(x.stringOf(0, 0), x.stringOf(0, 0) == 0 ? 1 : 0, place == 2 ? 3 : 0, weight);
        x.lay(0, mule, place, pack);
    }

    private static void goNoSuch() {
        DUE.sentence("go: -1 no such STRING");
        MuleRoad x = Due.road(Due.leg(1, 0, 0));
        DUE.is("without strings", x.go(0, true), -1);
        x.string(0, 50, 50, 50);
        for (int string : new int[] {-1, 1, 4, MOST, LEAST}) {
            DUE.is("go(" + string + ", true)", x.go(string, true), -1);
            DUE.is("go(" + string + ", false)", x.go(string, false), -1);
        }
        DUE.is("it is at its inn still", x.stringOf(0, 0), 0);
    }

    private static void goOnLeg() {
        DUE.sentence("go: -2 it is on a LEG");
        MuleRoad x = withStrings(1, Due.leg(2, 0, 0), Due.leg(2, 0, 0));
        x.go(0, true);
        for (int hour = 0; hour < 2; hour++) {
            DUE.is("up in hour " + hour, x.go(0, true), -2);
            DUE.is("down in hour " + hour, x.go(0, false), -2);
            DUE.is("it goes on: stringOf(0, 3)", x.stringOf(0, 3), 2);
            x.hours(1);
        }
        DUE.is("there", x.go(0, true), 4);
    }

    private static void goNoSuchLeg() {
        DUE.sentence("go: -3 there is no such LEG");
        MuleRoad x = withStrings(1);
        DUE.is("up with one inn", x.go(0, true), -3);
        DUE.is("down with one inn", x.go(0, false), -3);
        x.inn(1, 0, false);
        DUE.is("down from inn 0", x.go(0, false), -3);
        DUE.is("up to the new inn", x.go(0, true), 1);
        x.hours(1);
        DUE.is("up from the last inn", x.go(0, true), -3);
        DUE.is("down from it", x.go(0, false), 2);
        MuleRoad y = Due.road(Due.leg(1, 0, 0), Due.leg(1, 0, 0), Due.leg(1, 0, 0), Due.leg(1, 0, 0), Due.leg(1, 0, 0));
        y.string(5, 50, 50, 50);
        DUE.is("up from inn 5", y.go(0, true), -3);
        DUE.is("down from inn 5", y.go(0, false), 1);
    }

    private static void goDiffers() {
        DUE.sentence("go: -4 LEFT and RIGHT of a MULE differ by more than 10");
        for (int mule = 0; mule < 3; mule++) {
            for (int side = 0; side < 2; side++) {
                MuleRoad x = withStrings(1, Due.leg(1, 0, 0));
                load(x, mule, side, 10);
                load(x, mule, 2, 60);
                DUE.is("mule " + mule + ", 10 on side " + side, x.go(0, true), 1);
                x.hours(1);
                load(x, mule, side, 1);
                DUE.is("mule " + mule + ", 11 on side " + side, x.go(0, false), -4);
                load(x, mule, 1 - side, 1);
                DUE.is("mule " + mule + ", 11 and 1", x.go(0, false), 2);
            }
        }
        MuleRoad y = withStrings(1, Due.leg(1, 0, 0));
        load(y, 0, 0, 11);
        load(y, 1, 1, 11);
        DUE.is("each MULE by itself", y.go(0, true), -4);
    }

    /** In hour 18 at inn 0, mule 1 of string 0 just lame. */
    private static MuleRoad withLame(int leftWeight, int rightWeight, int topWeight) {
        MuleRoad x = withStrings(2, Due.leg(9, 9, 0), Due.leg(2, 0, 1));
        load(x, 1, 0, leftWeight);
        load(x, 1, 1, rightWeight);
        load(x, 1, 2, topWeight);
        for (int i = 0; i < 2; i++) {
            x.go(0, i % 2 == 0);
            x.hours(9);
        }
        return x;
    }

    private static void goLameWithLoad() {
        DUE.sentence("go: -4 a LAME one has a LOAD");
        MuleRoad x = withLame(30, 30, 30);
        DUE.is("it is lame", x.muleOf(0, 1, 2), 1);
        DUE.is("with its whole load", x.go(0, true), -4);
        x.down(0);
        x.down(1);
        DUE.is("with its top", x.go(0, true), -4);
        x.down(2);
        DUE.is("with nothing, though it is lame", x.go(0, true), 27);
        DUE.is("it is lame", x.muleOf(0, 1, 2), 1);
        MuleRoad y = withLame(30, 30, 30);
        y.hours(19);
        DUE.is("nearly rested", y.go(0, true), -4);
        y.hours(1);
        DUE.is("rested", y.go(0, true), 47);
    }

    private static void goShut() {
        DUE.sentence("go: -5 the LEG is SHUT in the HOUR at hand, as known in it");
        MuleRoad x = withStrings(4, Due.leg(1, 0, 0), Due.leg(1, 0, 0));
        x.snow(0, 1, 2);
        x.snow(1, 0, 9);
        DUE.is("ahead of it", x.go(0, true), 1);
        x.hours(1);
        DUE.is("in its first hour", x.go(1, true), -5);
        DUE.is("down too", x.go(0, false), -5);
        DUE.is("another leg is shut too", x.go(0, true), -5);
        x.hours(1);
        DUE.is("in its last hour", x.go(1, true), -5);
        x.hours(1);
        DUE.is("behind it", x.go(1, true), 4);
        x.snow(0, 3, 3);
        DUE.is("told now", x.go(2, true), -5);
        DUE.is("a string that left goes on", x.stringOf(1, 3), 4);
        x.snow(0, 5, 9);
        x.hours(1);
        x.snow(0, 0, 3);
        DUE.is("shut in other hours", x.go(2, true), 5);
    }

    private static void goLedge() {
        DUE.sentence("go: -6 the LEG is a LEDGE, and another STRING is on it");
        MuleRoad x = Due.road(Due.leg(3, 0, 1), Due.leg(3, 0, 1), Due.leg(3, 0, 0));
        for (int inn : new int[] {0, 1, 1, 2}) {
            x.string(inn, 50, 50, 50);
        }
        DUE.is("a free one", x.go(1, false), 3);
        DUE.is("against it", x.go(0, true), -6);
        DUE.is("behind it", x.go(2, false), -6);
        DUE.is("another ledge is free", x.go(2, true), 3);
        DUE.is("against that", x.go(3, false), -6);
        x.hours(2);
        DUE.is("in its last hour", x.go(0, true), -6);
        x.hours(1);
        DUE.is("as it is free", x.go(0, true), 6);
        DUE.is("one that came down by it", x.go(1, true), -6);
        DUE.is("the other one", x.go(3, false), 6);
        DUE.is("no ledge", x.go(2, true), 6);
        MuleRoad y = withStrings(4, Due.leg(3, 0, 0));
        for (int i = 0; i < 4; i++) {
            DUE.is("all four on one that is no ledge", y.go(i, true), 3);
        }
    }

    private static void goFirstRefusal() {
        DUE.sentence("go: REFUSALS, the first that holds");
        MuleRoad x = withLame(30, 30, 0);
        DUE.is("-3 ahead of -4 (lame)", x.go(0, false), -3);
        x.snow(0, 18, 18);
        DUE.is("-4 (lame) ahead of -5", x.go(0, true), -4);
        MuleRoad y = Due.road(Due.leg(9, 9, 1), Due.leg(2, 0, 1));
        y.string(0, 120, 120, 120);
        y.string(1, 50, 50, 50);
        load(y, 0, 0, 11);
        DUE.is("-3 ahead of -4 (apart)", y.go(0, false), -3);
        DUE.is("onto the ledge", y.go(1, false), 9);
        DUE.is("-4 (apart) ahead of -6", y.go(0, true), -4);
        y.snow(0, 0, 0);
        DUE.is("-4 (apart) ahead of -5 and -6", y.go(0, true), -4);
        y.down(0);
        DUE.is("-5 ahead of -6", y.go(0, true), -5);
        y.hours(1);
        DUE.is("-6", y.go(0, true), -6);
        DUE.is("-2 ahead of -3", y.go(1, false), -2);
        y.snow(0, 1, 1);
        DUE.is("-2 ahead of -5", y.go(1, true), -2);
        MuleRoad z = withStrings(1, Due.leg(1, 9, 0), Due.leg(9, 9, 0), Due.leg(1, 0, 0));
        load(z, 0, 0, 60);
        load(z, 0, 1, 60);
        z.go(0, true);
        z.hours(1);
        z.go(0, true);
        z.hours(8);
        DUE.is("lame under its load, on the leg", z.muleOf(0, 0, 2), 1);
        DUE.is("-2 ahead of -4", z.go(0, true), -2);
    }

    private static void goForAsManyHours() {
        DUE.sentence("go: the HOUR in which it will be there");
        for (int hours = 1; hours <= 9; hours++) {
            MuleRoad x = withStrings(1, Due.leg(hours, 0, 0));
            x.hours(5);
            DUE.is("a leg of " + hours, x.go(0, true), 5 + hours);
            x.hours(hours);
            DUE.is("and down", x.go(0, false), 5 + 2 * hours);
        }
    }

    private static void thereFromNextHourOn() {
        DUE.sentence("If all HOURS of the LEG went, the STRING is at the INN there from the next HOUR on");
        for (int hours = 1; hours <= 9; hours++) {
            MuleRoad x = withStrings(2, Due.leg(hours, 0, 0));
            x.go(0, true);
            for (int went = 0; went < hours; went++) {
                DUE.is("leg of " + hours + ", " + went + " went", x.stringOf(0, 1), 0);
                DUE.is("leg of " + hours + ", " + went + " went", x.stringOf(0, 0), -1);
                x.hours(1);
            }
            DUE.is("leg of " + hours + ", all went", x.stringOf(0, 0), 1);
            DUE.is("leg of " + hours + ", all went", x.stringOf(0, 1), -1);
            DUE.is("one that stays", x.stringOf(1, 0), 0);
            x.hours(100);
            DUE.is("it stays there", x.stringOf(0, 0), 1);
        }
    }

    private static void tiresByTwo() {
        DUE.sentence("each MULE that isn't LAME is more TIRED by 2 and LOAD times CLIMB by 100");
        MuleRoad x = withStrings(2, Due.leg(9, 9, 0), Due.leg(9, 0, 0));
        load(x, 2, 0, 60);
        load(x, 2, 1, 60);
        x.down(0);
        x.down(1);
        x.go(0, true);
        x.hours(1);
        for (int mule = 0; mule < 3; mule++) {
            DUE.is("without a load, mule " + mule, x.muleOf(0, mule, 1), 2);
            DUE.is("a string at an inn, mule " + mule, x.muleOf(1, mule, 1), 0);
        }
        x.hours(8);
        DUE.is("nine hours", x.muleOf(0, 0, 1), 18);
        load(x, 0, 0, 60);
        load(x, 0, 1, 60);
        x.go(0, true);
        x.hours(1);
        DUE.is("a load without a climb", x.muleOf(0, 0, 1), 20);
    }

    private static void tiresByLoadAndClimb() {
        DUE.sentence("LOAD times CLIMB by 100 (cut)");
        int[][] rows = {{11, 9, 2}, {12, 9, 3}, {22, 9, 3}, {23, 9, 4}, {50, 2, 3}, {49, 2, 2}, {99, 1, 2}, {100, 1, 3},
            {120, 9, 12}, {111, 9, 11}, {112, 9, 12}, {60, 5, 5}, {59, 5, 4}, {120, 0, 2}, {1, 9, 2}};
        for (int[] r : rows) {
            MuleRoad x = withStrings(1, Due.leg(1, r[1], 0));
            int top = Math.min(r[0], 60);
            load(x, 0, 2, top);
            int rest = r[0] - top;
            if (rest > 0) {
                load(x, 0, 0, (rest + 1) / 2);
            }
            if (rest > 1) {
                load(x, 0, 1, rest / 2);
            }
            DUE.is("load", x.muleOf(0, 0, 3), r[0]);
            x.go(0, true);
            x.hours(1);
            DUE.is("load " + r[0] + ", climb " + r[1], x.muleOf(0, 0, 1), r[2]);
            x.go(0, false);
            x.hours(1);
            DUE.is("and down again", x.muleOf(0, 0, 1), 2 * r[2]);
        }
    }

    private static void tiresHundredAtMost() {
        DUE.sentence("TIRED 0 to 100: 100 at most");
        MuleRoad x = withStrings(1, Due.leg(9, 9, 0));
        load(x, 0, 0, 60);
        load(x, 0, 1, 60);
        x.go(0, true);
        x.hours(8);
        DUE.is("8 times 12", x.muleOf(0, 0, 1), 96);
        x.hours(1);
        DUE.is("12 more", x.muleOf(0, 0, 1), 100);
    }

    private static void lameAtHundred() {
        DUE.sentence("at 100 it is LAME (its LOAD stays on it)");
        MuleRoad x = withStrings(1, Due.leg(9, 9, 0));
        load(x, 0, 0, 55);
        load(x, 0, 1, 55);
        load(x, 1, 2, 1);
        x.go(0, true);
        x.hours(9);
        DUE.is("9 times 11", x.muleOf(0, 0, 1), 99);
        DUE.is("99: not lame", x.muleOf(0, 0, 2), 0);
        x.go(0, false);
        x.hours(1);
        DUE.is("at 100", x.muleOf(0, 0, 1), 100);
        DUE.is("100: lame", x.muleOf(0, 0, 2), 1);
        DUE.is("its load", x.muleOf(0, 0, 3), 110);
        DUE.is("its left", x.muleOf(0, 0, 4), 55);
        DUE.is("its packs", x.stringOf(0, 4), 3);
        DUE.is("the string goes on", x.stringOf(0, 3), 18);
        MuleRoad y = withStrings(1, Due.leg(5, 0, 0));
        for (int i = 0; i < 10; i++) {
            DUE.is("not lame yet", y.muleOf(0, 1, 2), 0);
            y.go(0, i % 2 == 0);
            y.hours(5);
        }
        DUE.is("50 times 2, in the last hour of a leg", y.muleOf(0, 1, 2), 1);
        DUE.is("it is there all the same", y.stringOf(0, 0), 0);
    }

    private static void lameTiresNoMore() {
        DUE.sentence("each MULE that isn't LAME");
        MuleRoad x = withStrings(1, Due.leg(5, 0, 0));
        for (int i = 0; i < 10; i++) {
            x.go(0, i % 2 == 0);
            x.hours(5);
        }
        x.hours(1);
        DUE.is("rested for an hour", x.muleOf(0, 0, 1), 95);
        DUE.is("lame still", x.muleOf(0, 0, 2), 1);
        x.go(0, true);
        x.hours(5);
        DUE.is("it doesn't tire on a leg, nor rest", x.muleOf(0, 0, 1), 95);
        DUE.is("lame still", x.muleOf(0, 0, 2), 1);
        DUE.is("lame since", x.muleOf(0, 0, 7), 49);
    }

    private static void restsByFive() {
        DUE.sentence("Of STRINGS at an INN each MULE is less TIRED by 5, 0 at least");
        MuleRoad x = withStrings(1, Due.leg(9, 0, 0), Due.leg(1, 0, 0));
        x.go(0, true);
        x.hours(9);
        int[] want = {18, 13, 8, 3, 0, 0, 0};
        for (int i = 0; i < want.length; i++) {
            for (int mule = 0; mule < 3; mule++) {
                DUE.is(i + " hours there, mule " + mule, x.muleOf(0, mule, 1), want[i]);
            }
            x.hours(1);
        }
        for (int i = 0; i < 5; i++) {
            x.go(0, i % 2 == 0);
            x.hours(1);
        }
        DUE.is("five hours in a row", x.muleOf(0, 0, 1), 10);
        x.hours(1);
        DUE.is("10 less 5", x.muleOf(0, 0, 1), 5);
        x.hours(1);
        DUE.is("5 less 5", x.muleOf(0, 0, 1), 0);
    }

    private static void lameNoMoreAtZero() {
        DUE.sentence("a LAME one that is at 0 so is LAME no more");
        MuleRoad x = withLame(30, 30, 0);
        DUE.is("lame", x.muleOf(0, 1, 2), 1);
        int tired = x.muleOf(0, 1, 1);
        for (; tired > 5; tired -= 5) {
            x.hours(1);
            DUE.is("at " + (tired - 5), x.muleOf(0, 1, 1), tired - 5);
            DUE.is("at " + (tired - 5) + ": lame", x.muleOf(0, 1, 2), 1);
        }
        x.hours(1);
        DUE.is("at 0", x.muleOf(0, 1, 1), 0);
        DUE.is("at 0: lame", x.muleOf(0, 1, 2), 0);
        DUE.is("it bears its load still", x.muleOf(0, 1, 3), 60);
        x.go(0, true);
        x.hours(1);
        DUE.is("it tires again", x.muleOf(0, 1, 1), 7);
    }

    private static void unlikeMulesOfOneString() {
        DUE.sentence("of STRINGS on a LEG each MULE");
        MuleRoad x = withStrings(2, Due.leg(3, 9, 0));
        load(x, 0, 2, 12);
        load(x, 1, 2, 24);
        load(x, 2, 2, 36);
        x.go(0, true);
        x.hours(2);
        x.go(1, true);
        x.hours(1);
        int[] want = {9, 12, 15};
        for (int mule = 0; mule < 3; mule++) {
            DUE.is("muleOf(0, " + mule + ", 1)", x.muleOf(0, mule, 1), want[mule]);
            DUE.is("muleOf(1, " + mule + ", 1)", x.muleOf(1, mule, 1), 2);
        }
        x.hours(1);
        for (int mule = 0; mule < 3; mule++) {
            DUE.is("rested: muleOf(0, " + mule + ", 1)", x.muleOf(0, mule, 1), want[mule] - 5);
            DUE.is("on its leg: muleOf(1, " + mule + ", 1)", x.muleOf(1, mule, 1), 4);
        }
    }

    private static void stringIs(MuleRoad x, String when, int... want) {
        for (int what = 0; what < want.length; what++) {
            DUE.is(when + ": stringOf(1, " + what + ")", x.stringOf(1, what), want[what]);
        }
    }

    private static void stringOfEach() {
        DUE.sentence("17: stringOf, NONE on a LEG, NONE at an INN");
        MuleRoad x = Due.road(Due.leg(1, 0, 0), Due.leg(2, 0, 0));
        x.string(0, 50, 50, 50);
        x.string(1, 50, 50, 50);
        for (int i = 0; i < 3; i++) {
            x.pack(1, 2, i, 5);
            x.lay(1, i, i % 2, i);
        }
        stringIs(x, "at inn 1", 1, -1, -1, -1, 3);
        x.go(1, true);
        stringIs(x, "up leg 1", -1, 1, 1, 2, 3);
        x.hours(2);
        stringIs(x, "at inn 2", 2, -1, -1, -1, 3);
        x.down(1);
        stringIs(x, "one is down", 2, -1, -1, -1, 2);
        x.go(1, false);
        stringIs(x, "down leg 1", -1, 1, 0, 4, 2);
        x.hours(2);
        x.go(1, false);
        stringIs(x, "down leg 0", -1, 0, 0, 5, 2);
        x.hours(1);
        stringIs(x, "at inn 0", 0, -1, -1, -1, 2);
    }

    private static void stringOfNoOther() {
        DUE.sentence("17: NONE for others");
        MuleRoad x = withStrings(1, Due.leg(2, 0, 0));
        x.go(0, true);
        for (int what : new int[] {-1, 5, 6, MOST, LEAST}) {
            DUE.is("stringOf(0, " + what + ")", x.stringOf(0, what), -1);
        }
        for (int what = -1; what <= 5; what++) {
            for (int string : new int[] {-1, 1, 3, 4, MOST, LEAST}) {
                DUE.is("stringOf(" + string + ", " + what + ")", x.stringOf(string, what), -1);
            }
        }
    }

    private static void muleOfEach() {
        DUE.sentence("18: muleOf");
        MuleRoad x = Due.road(Due.leg(1, 9, 0));
        x.string(0, 20, 30, 40);
        x.string(0, 100, 110, 120);
        int[] kinds = {0, 1, 2, 3};
        int[] weights = {30, 15, 7, 41};
        int[] places = {0, 1, 1, 2};
        for (int i = 0; i < 4; i++) {
            x.pack(0, 1, kinds[i], weights[i]);
            x.lay(1, 1, places[i], i);
        }
        int[] want = {110, 0, 0, 93, 30, 22, 3, -1};
        for (int what = 0; what < 8; what++) {
            DUE.is("muleOf(1, 1, " + what + ")", x.muleOf(1, 1, what), want[what]);
        }
        for (int what = 3; what < 6; what++) {
            DUE.is("another mule", x.muleOf(1, 0, what), 0);
            DUE.is("another string", x.muleOf(0, 1, what), 0);
        }
        DUE.is("none on top", x.muleOf(1, 0, 6), -1);
        DUE.is("10 apart", x.go(1, true), 1);
        x.hours(1);
        DUE.is("tired", x.muleOf(1, 1, 1), 10);
    }

    private static void muleOfWentLame() {
        DUE.sentence("18: the HOUR in which it went LAME the latest time (NONE)");
        MuleRoad x = withStrings(1, Due.leg(5, 0, 0));
        for (int i = 0; i < 10; i++) {
            DUE.is("never so far", x.muleOf(0, 0, 7), -1);
            x.go(0, i % 2 == 0);
            x.hours(5);
        }
        DUE.is("in the fiftieth hour", x.muleOf(0, 0, 7), 49);
        x.hours(20);
        DUE.is("lame no more", x.muleOf(0, 0, 2), 0);
        DUE.is("the latest time all the same", x.muleOf(0, 0, 7), 49);
        for (int i = 0; i < 10; i++) {
            DUE.is("the latest time", x.muleOf(0, 0, 7), 49);
            x.go(0, i % 2 == 0);
            x.hours(5);
        }
        DUE.is("a second time", x.muleOf(0, 0, 7), 119);
    }

    private static void muleOfNoOther() {
        DUE.sentence("18: NONE for others");
        MuleRoad x = withStrings(1, Due.leg(1, 0, 0));
        for (int what = -1; what <= 8; what++) {
            for (int other : new int[] {-1, 3, 4, MOST, LEAST}) {
                DUE.is("muleOf(0, " + other + ", " + what + ")", x.muleOf(0, other, what), -1);
                DUE.is("muleOf(" + other + ", 0, " + what + ")", x.muleOf(other, 0, what), -1);
            }
            DUE.is("muleOf(1, 0, " + what + ")", x.muleOf(1, 0, what), -1);
        }
        for (int what : new int[] {-1, 8, 9, MOST, LEAST}) {
            DUE.is("muleOf(0, 0, " + what + ")", x.muleOf(0, 0, what), -1);
        }
    }
}
