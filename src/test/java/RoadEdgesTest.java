/** Boundary cases of promises 1 to 5, 10 and 22, sentence by sentence. */
public final class RoadEdgesTest {
    private static final Due DUE = new Due();
    private static final int MOST = Integer.MAX_VALUE;
    private static final int LEAST = Integer.MIN_VALUE;

    public static void main(String[] args) {
        newObjectHasNothing();
        objectsShareNothing();
        firstInn();
        legHours();
        legClimbs();
        ledges();
        sixInns();
        legsLieBetween();
        innOfString();
        strengths();
        fourStrings();
        newMules();
        legOfSnow();
        hoursOfSnow();
        fromBehindTo();
        sixtyTellings();
        bothTooAreShut();
        knownFromItsHourOn();
        someTelling();
        noSuchShut();
        howManyHours();
        lastHour();
        countsEach();
        countsNoOther();
        DUE.end();
    }

    private static MuleRoad oneLeg() {
        return Due.road(Due.leg(1, 0, 0));
    }

    private static void newObjectHasNothing() {
        DUE.sentence("1: No INNS, STRINGS, PACKS, BARGAINS, an empty TAPE; HOUR 0");
        MuleRoad x = new MuleRoad();
        for (int what = 0; what <= 9; what++) {
            DUE.is("count(" + what + ")", x.count(what), 0);
        }
        DUE.is("string at inn 0", x.string(0, 50, 50, 50), -1);
        DUE.is("snow on leg 0", x.snow(0, 0, 0), -1);
        DUE.is("shut leg 0", x.shut(0, 0, 0), -1);
        DUE.is("pack between inns 0 and 1", x.pack(0, 1, 0, 1), -1);
        DUE.is("lay", x.lay(0, 0, 0, 0), -1);
        DUE.is("down", x.down(0), -1);
        DUE.is("go", x.go(0, true), -1);
        DUE.is("best", x.best(0, 0), -1);
        DUE.is("bestOf", x.bestOf(0, 0, 0), -1);
        DUE.is("end(1)", x.end(1), -1);
        DUE.is("end(0)", x.end(0), 0);
        DUE.is("place()", x.place(), -1);
        DUE.is("stringOf", x.stringOf(0, 0), -1);
        DUE.is("muleOf", x.muleOf(0, 0, 0), -1);
        DUE.is("of", x.of(0, 0), -1);
        DUE.is("brought", Due.brought(x, 0), Due.THROWS);
        DUE.is("was", x.was(0, 0), -1);
        DUE.is("bargain() of the empty tape", x.bargain(), 0);
        DUE.is("hours(1)", x.hours(1), 1);
    }

    private static void objectsShareNothing() {
        DUE.sentence("1: a second object is new too");
        MuleRoad x = oneLeg();
        x.string(0, 50, 50, 50);
        x.pack(0, 1, 0, 1);
        x.snow(0, 0, 0);
        x.feed(1, 2, 3, 4, 5);
        x.hours(1);
        MuleRoad y = new MuleRoad();
        for (int what = 0; what <= 9; what++) {
            DUE.is("count(" + what + ")", y.count(what), 0);
        }
        y.inn(0, 0, false);
        DUE.is("count(1) of the first", x.count(1), 2);
    }

    private static void firstInn() {
        DUE.sentence("2: the first one: all numbers 0 and false");
        MuleRoad x = new MuleRoad();
        int[][] others = {{1, 0}, {0, 1}, {-1, 0}, {0, -1}, {9, 9}, {MOST, 0}, {0, LEAST}, {1, -1}, {LEAST, LEAST}};
        for (int[] o : others) {
            DUE.is("inn(" + o[0] + ", " + o[1] + ", false)", x.inn(o[0], o[1], false), -1);
        }
        DUE.is("inn(0, 0, true)", x.inn(0, 0, true), -1);
        DUE.is("none came", x.count(1), 0);
        DUE.is("inn(0, 0, false)", x.inn(0, 0, false), 0);
        DUE.is("one came", x.count(1), 1);
        DUE.is("inn(0, 0, false) again", x.inn(0, 0, false), -1);
        DUE.is("one is there", x.count(1), 1);
    }

    private static void legHours() {
        DUE.sentence("2: other numbers; a LEG takes 1 to 9 HOURS");
        MuleRoad x = Due.road();
        for (int hours : new int[] {0, -1, 10, 100, MOST, LEAST}) {
            DUE.is("inn(" + hours + ", 5, false)", x.inn(hours, 5, false), -1);
            DUE.is("inn(" + hours + ", 5, true)", x.inn(hours, 5, true), -1);
        }
        DUE.is("count(1)", x.count(1), 1);
        DUE.is("inn(1, 5, false)", x.inn(1, 5, false), 1);
        DUE.is("inn(9, 5, false)", x.inn(9, 5, false), 2);
    }

    private static void legClimbs() {
        DUE.sentence("2: other numbers; a LEG CLIMBS 0 to 9");
        MuleRoad x = Due.road();
        for (int climbs : new int[] {-1, 10, 100, MOST, LEAST}) {
            DUE.is("inn(5, " + climbs + ", false)", x.inn(5, climbs, false), -1);
            DUE.is("inn(5, " + climbs + ", true)", x.inn(5, climbs, true), -1);
        }
        DUE.is("count(1)", x.count(1), 1);
        DUE.is("inn(5, 0, false)", x.inn(5, 0, false), 1);
        DUE.is("inn(5, 9, false)", x.inn(5, 9, false), 2);
    }

    private static void ledges() {
        DUE.sentence("2: a LEG may be a LEDGE");
        for (int ledge = 0; ledge < 2; ledge++) {
            MuleRoad x = Due.road(Due.leg(2, 0, ledge));
            x.string(0, 50, 50, 50);
            x.string(0, 50, 50, 50);
            DUE.is("ledge " + ledge + ": first string", x.go(0, true), 2);
            DUE.is("ledge " + ledge + ": second string", x.go(1, true), ledge == 1 ? -6 : 2);
        }
    }

    private static void sixInns() {
        DUE.sentence("2: NONE: six are there");
        MuleRoad x = Due.road();
        for (int i = 1; i < 6; i++) {
            DUE.is("inn " + i, x.inn(1, 0, false), i);
        }
        DUE.is("a seventh", x.inn(1, 0, false), -1);
        DUE.is("a seventh as the first", x.inn(0, 0, false), -1);
        DUE.is("count(1)", x.count(1), 6);
        DUE.is("string at inn 5", x.string(5, 50, 50, 50), 0);
        DUE.is("string at inn 6", x.string(6, 50, 50, 50), -1);
        DUE.is("snow on leg 4", x.snow(4, 0, 0), 0);
        DUE.is("snow on leg 5", x.snow(5, 0, 0), -1);
    }

    private static void legsLieBetween() {
        DUE.sentence("LEG i lies between INN i and INN i + 1");
        MuleRoad x = Due.road(Due.leg(2, 0, 0), Due.leg(3, 0, 0), Due.leg(4, 0, 0), Due.leg(5, 0, 0), Due.leg(6, 0, 0));
        x.string(0, 50, 50, 50);
        int hour = 0;
        for (int leg = 0; leg < 5; leg++) {
            DUE.is("up leg " + leg, x.go(0, true), hour + leg + 2);
            DUE.is("its leg", x.stringOf(0, 1), leg);
            hour = x.hours(leg + 2);
            DUE.is("its inn", x.stringOf(0, 0), leg + 1);
        }
        for (int leg = 4; leg >= 0; leg--) {
            DUE.is("down leg " + leg, x.go(0, false), hour + leg + 2);
            DUE.is("its leg", x.stringOf(0, 1), leg);
            hour = x.hours(leg + 2);
            DUE.is("its inn", x.stringOf(0, 0), leg);
        }
    }

    private static void innOfString() {
        DUE.sentence("3: NONE: no such INN");
        MuleRoad x = Due.road();
        for (int inn : new int[] {-1, 1, 6, MOST, LEAST}) {
            DUE.is("string at inn " + inn, x.string(inn, 50, 50, 50), -1);
        }
        DUE.is("count(2)", x.count(2), 0);
        DUE.is("string at inn 0", x.string(0, 50, 50, 50), 0);
        x.inn(1, 0, false);
        DUE.is("string at the new inn 1", x.string(1, 50, 50, 50), 1);
        DUE.is("stringOf(1, 0)", x.stringOf(1, 0), 1);
    }

    private static void strengths() {
        DUE.sentence("3: NONE: other numbers; STRENGTH 20 to 120");
        MuleRoad x = Due.road();
        int[] good = {70, 70, 70};
        for (int mule = 0; mule < 3; mule++) {
            for (int other : new int[] {19, 121, 0, -1, -20, MOST, LEAST}) {
                int[] s = good.clone();
                s[mule] = other;
                DUE.is("mule " + mule + " of strength " + other, x.string(0, s[0], s[1], s[2]), -1);
            }
        }
        DUE.is("count(2)", x.count(2), 0);
        for (int mule = 0; mule < 3; mule++) {
            int[] s = {120, 120, 120};
            s[mule] = 20;
            DUE.is("mule " + mule + " of strength 20", x.string(0, s[0], s[1], s[2]), mule);
            for (int i = 0; i < 3; i++) {
                DUE.is("muleOf(" + mule + ", " + i + ", 0)", x.muleOf(mule, i, 0), s[i]);
            }
        }
    }

    private static void fourStrings() {
        DUE.sentence("3: NONE: four are there");
        MuleRoad x = Due.road();
        for (int i = 0; i < 4; i++) {
            DUE.is("string " + i, x.string(0, 50, 50, 50), i);
        }
        DUE.is("a fifth", x.string(0, 50, 50, 50), -1);
        DUE.is("count(2)", x.count(2), 4);
        DUE.is("stringOf(3, 0)", x.stringOf(3, 0), 0);
        DUE.is("stringOf(4, 0)", x.stringOf(4, 0), -1);
    }

    private static void newMules() {
        DUE.sentence("STRINGS have three MULES (0 to 2) each, TIRED 0 at first");
        MuleRoad x = Due.road();
        x.hours(3);
        x.string(0, 50, 60, 70);
        int[] strings = {0, -1, -1, -1, 0};
        for (int what = 0; what < 5; what++) {
            DUE.is("stringOf(0, " + what + ")", x.stringOf(0, what), strings[what]);
        }
        for (int mule = 0; mule < 3; mule++) {
            int[] want = {50 + 10 * mule, 0, 0, 0, 0, 0, -1, -1};
            for (int what = 0; what < 8; what++) {
                DUE.is("muleOf(0, " + mule + ", " + what + ")", x.muleOf(0, mule, what), want[what]);
            }
        }
    }

    private static void legOfSnow() {
        DUE.sentence("4: NONE: no such LEG");
        MuleRoad x = Due.road();
        DUE.is("leg 0 with one inn", x.snow(0, 0, 0), -1);
        x.inn(1, 0, false);
        for (int leg : new int[] {-1, 1, 5, 31, 32, MOST, LEAST}) {
            DUE.is("leg " + leg + " with two inns", x.snow(leg, 0, 0), -1);
        }
        DUE.is("count(4)", x.count(4), 0);
        DUE.is("leg 0 with two inns", x.snow(0, 0, 0), 0);
        x.inn(1, 0, false);
        DUE.is("leg 1 with three inns", x.snow(1, 0, 0), 1);
        DUE.is("leg 2 with three inns", x.snow(2, 0, 0), -1);
    }

    private static void hoursOfSnow() {
        DUE.sentence("4: NONE: no such HOURS (0 to 9999)");
        MuleRoad x = oneLeg();
        int[][] others = {{-1, 5}, {-1, -1}, {LEAST, 5}, {5, 10000}, {10000, 10000}, {5, MOST}, {MOST, MOST}, {LEAST, MOST}};
        for (int[] o : others) {
            DUE.is("snow(0, " + o[0] + ", " + o[1] + ")", x.snow(0, o[0], o[1]), -1);
        }
        DUE.is("count(4)", x.count(4), 0);
        DUE.is("snow(0, 0, 0)", x.snow(0, 0, 0), 0);
        DUE.is("snow(0, 0, 9999)", x.snow(0, 0, 9999), 1);
        DUE.is("snow(0, 9999, 9999)", x.snow(0, 9999, 9999), 2);
        x.hours(10);
        DUE.is("of hours that went", x.snow(0, 1, 2), 3);
        DUE.is("shut(0, 2, 10)", x.shut(0, 2, 10), 1);
    }

    private static void fromBehindTo() {
        DUE.sentence("4: NONE: from behind to");
        MuleRoad x = oneLeg();
        DUE.is("snow(0, 6, 5)", x.snow(0, 6, 5), -1);
        DUE.is("snow(0, 9999, 0)", x.snow(0, 9999, 0), -1);
        DUE.is("snow(0, 1, 0)", x.snow(0, 1, 0), -1);
        DUE.is("count(4)", x.count(4), 0);
        DUE.is("shut(0, 5, 0)", x.shut(0, 5, 0), 0);
        DUE.is("snow(0, 5, 5)", x.snow(0, 5, 5), 0);
    }

    private static void sixtyTellings() {
        DUE.sentence("4: NONE: 60 are there");
        MuleRoad x = oneLeg();
        for (int i = 0; i < 60; i++) {
            DUE.is("telling " + i, x.snow(0, 2 * i, 2 * i), i);
            DUE.is("one with a fault between", x.snow(0, 1, 0), -1);
        }
        DUE.is("a 61st", x.snow(0, 500, 500), -1);
        DUE.is("count(4)", x.count(4), 60);
        DUE.is("the last is known", x.shut(0, 118, 0), 1);
        DUE.is("the 61st isn't", x.shut(0, 500, 0), 0);
    }

    private static void bothTooAreShut() {
        DUE.sentence("a LEG is shut from an HOUR to an HOUR, both too");
        MuleRoad x = Due.road(Due.leg(1, 0, 0), Due.leg(1, 0, 0), Due.leg(1, 0, 0));
        x.snow(1, 3, 5);
        for (int hour = 0; hour < 9; hour++) {
            DUE.is("shut(1, " + hour + ", 0)", x.shut(1, hour, 0), hour >= 3 && hour <= 5 ? 1 : 0);
            DUE.is("shut(0, " + hour + ", 0)", x.shut(0, hour, 0), 0);
            DUE.is("shut(2, " + hour + ", 0)", x.shut(2, hour, 0), 0);
        }
        x.snow(2, 0, 0);
        DUE.is("shut(2, 0, 0)", x.shut(2, 0, 0), 1);
        DUE.is("shut(2, 1, 0)", x.shut(2, 1, 0), 0);
        x.snow(2, 9999, 9999);
        DUE.is("shut(2, 9999, 0)", x.shut(2, 9999, 0), 1);
        DUE.is("shut(2, 9998, 0)", x.shut(2, 9998, 0), 0);
    }

    private static void knownFromItsHourOn() {
        DUE.sentence("each is known from the HOUR on in which it is told");
        MuleRoad x = oneLeg();
        x.hours(4);
        x.snow(0, 2, 20);
        x.hours(2);
        for (int known = 0; known <= 6; known++) {
            DUE.is("shut(0, 10, " + known + ")", x.shut(0, 10, known), known >= 4 ? 1 : 0);
            DUE.is("shut(0, 2, " + known + ")", x.shut(0, 2, known), known >= 4 ? 1 : 0);
        }
    }

    private static void someTelling() {
        DUE.sentence("some telling known then has it so");
        MuleRoad x = oneLeg();
        x.snow(0, 1, 2);
        x.snow(0, 6, 8);
        x.hours(1);
        x.snow(0, 2, 4);
        int[] first = {0, 1, 1, 0, 0, 0, 1, 1, 1, 0};
        int[] then = {0, 1, 1, 1, 1, 0, 1, 1, 1, 0};
        for (int hour = 0; hour < first.length; hour++) {
            DUE.is("shut(0, " + hour + ", 0)", x.shut(0, hour, 0), first[hour]);
            DUE.is("shut(0, " + hour + ", 1)", x.shut(0, hour, 1), then[hour]);
        }
    }

    private static void noSuchShut() {
        DUE.sentence("5: HOUR (0 to 9999), known not behind the one at hand; NONE: no such ones");
        MuleRoad x = oneLeg();
        x.snow(0, 0, 9999);
        int[][] none = {{-1, 0, 0}, {1, 0, 0}, {MOST, 0, 0}, {LEAST, 0, 0}, {0, -1, 0}, {0, 10000, 0}, {0, MOST, 0},
            {0, LEAST, 0}, {0, 0, -1}, {0, 0, 1}, {0, 0, MOST}, {0, 0, LEAST}};
        for (int[] o : none) {
            DUE.is("shut(" + o[0] + ", " + o[1] + ", " + o[2] + ")", x.shut(o[0], o[1], o[2]), -1);
        }
        DUE.is("shut(0, 0, 0)", x.shut(0, 0, 0), 1);
        DUE.is("shut(0, 9999, 0)", x.shut(0, 9999, 0), 1);
        x.hours(1);
        DUE.is("shut(0, 9999, 1) an hour later", x.shut(0, 9999, 1), 1);
        DUE.is("shut(0, 9999, 2) an hour later", x.shut(0, 9999, 2), -1);
        MuleRoad y = Due.road();
        DUE.is("leg 0 with one inn", y.shut(0, 0, 0), -1);
    }

    private static void howManyHours() {
        DUE.sentence("10: So many HOURS (1 to 100) go; NONE: another n");
        MuleRoad x = new MuleRoad();
        for (int n : new int[] {0, -1, -100, 101, 9999, MOST, LEAST}) {
            DUE.is("hours(" + n + ")", x.hours(n), -1);
        }
        DUE.is("none went", x.count(0), 0);
        DUE.is("hours(1)", x.hours(1), 1);
        DUE.is("hours(100)", x.hours(100), 101);
        DUE.is("hours(99)", x.hours(99), 200);
        DUE.is("count(0)", x.count(0), 200);
    }

    private static void lastHour() {
        DUE.sentence("10: NONE: there would be more than 9999");
        MuleRoad x = oneLeg();
        x.string(0, 50, 50, 50);
        Due.pass(x, 9950);
        for (int n : new int[] {50, 51, 99, 100}) {
            DUE.is("hours(" + n + ") in 9950", x.hours(n), -1);
        }
        DUE.is("none went", x.count(0), 9950);
        DUE.is("hours(48) in 9950", x.hours(48), 9998);
        DUE.is("hours(2) in 9998", x.hours(2), -1);
        DUE.is("go in 9998", x.go(0, true), 9999);
        DUE.is("hours(1) in 9998", x.hours(1), 9999);
        DUE.is("the string is there", x.stringOf(0, 0), 1);
        DUE.is("hours(1) in 9999", x.hours(1), -1);
        DUE.is("the hour at hand", x.count(0), 9999);
        DUE.is("known in the last hour", x.shut(0, 0, 9999), 0);
        DUE.is("known in hour 10000", x.shut(0, 0, 10000), -1);
        MuleRoad y = new MuleRoad();
        Due.pass(y, 9899);
        DUE.is("hours(100) in 9899", y.hours(100), 9999);
    }

    private static void countsEach() {
        DUE.sentence("22: count");
        MuleRoad x = Due.road(Due.leg(1, 0, 0), Due.leg(1, 0, 0), Due.leg(1, 0, 0));
        x.string(0, 60, 60, 60);
        x.string(0, 60, 60, 60);
        Due.tell(x, ":-1;");
        DUE.is("nothing brought: count(9)", x.count(9), 0);
        for (int i = 0; i < 7; i++) {
            x.pack(0, 1, 0, 1);
        }
        for (int i = 0; i < 3; i++) {
            x.lay(0, 0, 0, i);
        }
        DUE.is("laid: count(7)", x.count(7), 4);
        x.go(0, true);
        x.hours(9);
        x.down(0);
        DUE.is("one brought -1: count(9)", x.count(9), -1);
        x.down(1);
        for (int i = 0; i < 5; i++) {
            x.snow(0, 1, 1);
        }
        for (int i = 0; i < 5; i++) {
            Due.tell(x, "");
        }
        x.feed(0, 0, 0, 0, 0);
        x.end(11);
        int[] want = {9, 4, 2, 7, 5, 6, 11, 4, 2, -2};
        for (int what = 0; what < 10; what++) {
            DUE.is("count(" + what + ")", x.count(what), want[what]);
        }
    }

    private static void countsNoOther() {
        DUE.sentence("22: NONE for others");
        MuleRoad x = oneLeg();
        for (int what : new int[] {-1, 10, 11, 256, MOST, LEAST}) {
            DUE.is("count(" + what + ")", x.count(what), -1);
        }
    }
}
