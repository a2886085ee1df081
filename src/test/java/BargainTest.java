import java.nio.charset.StandardCharsets;

/** Promises 13 feed, 14 end, 15 bargain, 16 place, 20 brought. */
public final class BargainTest {
    private static final Due DUE = new Due();
    private static final int MOST = Integer.MAX_VALUE;
    private static final int LEAST = Integer.MIN_VALUE;

    public static void main(String[] args) {
        feed();
        end();
        texts();
        faults();
        tooMany();
        fullTapes();
        everyByte();
        numbersAndPlaces();
        inForce();
        pay();
        broughtThrows();
        DUE.end();
    }

    private static void feed() {
        MuleRoad x = new MuleRoad();
        for (int n = 20; n <= 400; n += 20) {
            DUE.is("feed to " + n, x.feed(0, 0, 0, 0, 0), n);
        }
        DUE.is("feed beyond 400", x.feed(0, 0, 0, 0, 0), -1);
        DUE.is("count(6)", x.count(6), 400);
        DUE.is("end(381)", x.end(381), 381);
        DUE.is("feed beyond 400 from 381", x.feed(0, 0, 0, 0, 0), -1);
        DUE.is("count(6)", x.count(6), 381);
        DUE.is("end(380)", x.end(380), 380);
        DUE.is("feed from 380", x.feed(0, 0, 0, 0, 0), 400);
        // Each byte in its place: the first that is no blank is the fault.
        for (int at = 0; at < 20; at++) {
            byte[] b = " ".repeat(20).getBytes(StandardCharsets.ISO_8859_1);
            b[at] = (byte) 200;
            MuleRoad y = new MuleRoad();
            Due.feed(y, b);
            DUE.is("byte 200 at " + at, y.bargain(), -3);
            DUE.is("its place", y.place(), at);
        }
    }

    private static void end() {
        MuleRoad x = new MuleRoad();
        DUE.is("end(0) of nothing", x.end(0), 0);
        DUE.is("end(1) of nothing", x.end(1), -1);
        x.feed(0, 0, 0, 0, 0);
        int[] none = {-1, 21, MOST, LEAST};
        for (int n : none) {
            DUE.is("end(" + n + ")", x.end(n), -1);
        }
        DUE.is("count(6)", x.count(6), 20);
        DUE.is("end(20)", x.end(20), 20);
        DUE.is("end(7)", x.end(7), 7);
        DUE.is("count(6)", x.count(6), 7);
        DUE.is("end(8)", x.end(8), -1);
        DUE.is("feed behind 7", x.feed(0, 0, 0, 0, 0), 27);
    }

    private static void texts() {
        String[] good = {"", " \n ", ":0;", " : - 9999 ; ", "salt:1;", "glass and weight<1 and hours=2 and held>3:-4;",
            "salt\nand\nwire\n:\n1\n;\n", ":1;:2;mail:3;", "weight>0001and hours<20and held=3and mail:5;",
            "weight=0:0;", ":-0;", ":1;".repeat(20), "salt and salt and salt and salt:1;".repeat(11)};
        for (String text : good) {
            MuleRoad x = new MuleRoad();
            DUE.is("text '" + text + "'", Due.tell(x, text), 0);
            DUE.is("its place", x.place(), -1);
            DUE.is("its tape", x.count(6), 0);
        }
        MuleRoad x = new MuleRoad();
        DUE.is("400 blanks", Due.tell(x, " ".repeat(397) + ":1;"), 0);
    }

    private static void faultOf(String text, int kind, int place) {
        MuleRoad x = new MuleRoad();
        DUE.is("fault of '" + text + "'", Due.tell(x, text), -2 - kind);
        DUE.is("place in '" + text + "'", x.place(), place);
        DUE.is("bargains after '" + text + "'", x.count(5), 0);
        DUE.is("tape after '" + text + "'", x.count(6), 0);
    }

    private static void faults() {
        faultOf("x", 1, 0);
        faultOf(" sal", 1, 1);
        faultOf("salts:1;", 1, 0);
        faultOf("saltz:1;", 1, 0);
        faultOf("asalt:1;", 1, 0);
        for (String word : new String[] {"talt", "sant", "sald", "fire", "wirf", "nail", "maid", "class", "glasz",
            "height<1", "weighs<1", "yours<1", "hourt<1", "weld<1", "helm<1"}) {
            faultOf(word + ":1;", 1, 0);
            faultOf("salt and " + word + ":1;", 1, 9);
        }
        faultOf("salt end wire:1;", 1, 5);
        faultOf("salt any wire:1;", 1, 5);
        faultOf("saltand wire:1;", 1, 0);
        faultOf("Salt:1;", 1, 0);
        faultOf("saLt:1;", 1, 0);
        faultOf("salt", 1, 4);
        faultOf("salt  \n", 1, 7);
        faultOf("salt wire:1;", 1, 5);
        faultOf("salt 12345", 1, 5);
        faultOf("salt;", 1, 4);
        faultOf("salt<5:1;", 1, 4);
        faultOf("and salt:1;", 1, 0);
        faultOf("salt and", 1, 8);
        faultOf("salt and and", 1, 9);
        faultOf("salt and foo", 1, 9);
        faultOf("weight", 1, 6);
        faultOf("weight:1;", 1, 6);
        faultOf("weight<", 1, 7);
        faultOf("weight<=3:1;", 1, 7);
        faultOf("weight<-3:1;", 1, 7);
        faultOf("weight<salt:1;", 1, 7);
        faultOf("weight<12345:1;", 1, 7);
        faultOf("weight<1234 5:1;", 1, 12);
        faultOf("weight<5;", 1, 8);
        faultOf("held=1 hours=2:1;", 1, 7);
        faultOf(":", 1, 1);
        faultOf("::", 1, 1);
        faultOf(":;", 1, 1);
        faultOf(":-", 1, 2);
        faultOf(":--1;", 1, 2);
        faultOf(":-;", 1, 2);
        faultOf(": 99999;", 1, 2);
        faultOf(":1", 1, 2);
        faultOf(":1 2;", 1, 3);
        faultOf(":1:2;", 1, 2);
        faultOf(":1;5", 1, 3);
        faultOf(":1;;", 1, 3);
        faultOf(":1; - ", 1, 4);
        faultOf(":1;salt", 1, 7);
        faultOf(":1\t;", 1, 2);
        faultOf(":1;\r", 1, 3);
        faultOf("glass.", 1, 5);
        faultOf("gla.", 1, 0);
        faultOf(":1234" + (char) 233, 1, 5);
        faultOf(":12345" + (char) 233, 1, 1);
    }

    /** As many tokens as a tape can have, and the longest of them. */
    private static void fullTapes() {
        faultOf(";".repeat(400), 1, 0);
        faultOf(":".repeat(400), 1, 1);
        faultOf("-".repeat(399) + " ", 1, 0);
        faultOf("a".repeat(400), 1, 0);
        faultOf("7".repeat(400), 1, 0);
        faultOf(":" + "7".repeat(399), 1, 1);
        faultOf(" ".repeat(399) + ":", 1, 400);
        faultOf(" ".repeat(399) + ";", 1, 399);
    }

    private static void tooMany() {
        String twenty = ":1;".repeat(20);
        faultOf(twenty + " :", 2, 61);
        faultOf(twenty + "salt", 2, 60);
        faultOf(twenty + "held", 2, 60);
        faultOf(twenty + "\n\nheldx", 1, 62);
        faultOf(twenty + "and", 1, 60);
        faultOf(twenty + "5", 1, 60);
        faultOf(twenty + ";", 1, 60);
        faultOf(twenty + "!", 1, 60);
        faultOf(twenty.substring(0, 59), 1, 59);
        String four = "salt and held<5 and wire and hours>2";
        int end = four.length();
        faultOf(four + " and mail:1;", 2, end + 5);
        faultOf(four + " and held", 2, end + 5);
        faultOf(four + " and", 1, end + 4);
        faultOf(four + " and:1;", 1, end + 4);
        faultOf(four + " and and", 1, end + 5);
        faultOf(four + " and nothing", 1, end + 5);
        faultOf(four + " salt", 1, end + 1);
        faultOf(":1;" + four + ":1;" + four + " and glass", 2, 2 * end + 11);
        faultOf("x" + twenty + twenty, 1, 0);
        faultOf("salt and salt and salt and salt:1;".repeat(11) + "salt and salt and sal", 1, 34 * 11 + 18);
    }

    private static void everyByte() {
        for (int b = 0; b < 256; b++) {
            MuleRoad x = new MuleRoad();
            int want = b == ' ' || b == '\n' ? 0 : -3;
            int place = want == 0 ? -1 : 3;
            if (b == ':') {
                place = 4;
            }
            Due.feed(x, new byte[] {':', '1', ';', (byte) b});
            DUE.is("behind a rule byte " + b, x.bargain(), want);
            DUE.is("its place", x.place(), place);
        }
    }

    private static void numbersAndPlaces() {
        MuleRoad x = new MuleRoad();
        DUE.is("a fault", Due.tell(x, " ?"), -3);
        DUE.is("place()", x.place(), 1);
        DUE.is("place() again", x.place(), 1);
        for (int i = 0; i < 10; i++) {
            DUE.is("bargain " + i, Due.tell(x, ":1;"), i);
            DUE.is("place()", x.place(), -1);
            if (i < 9) {
                DUE.is("a fault between", Due.tell(x, "  ?"), -3);
                DUE.is("place()", x.place(), 2);
            }
        }
        DUE.is("count(5)", x.count(5), 10);
        DUE.is("an eleventh", Due.tell(x, ":1;"), -1);
        DUE.is("the tape stays", x.count(6), 3);
        DUE.is("place() of the tenth", x.place(), -1);
        x.end(0);
        DUE.is("an eleventh with a fault", Due.tell(x, "?"), -1);
        DUE.is("place() of the tenth", x.place(), -1);
    }

    private static void inForce() {
        MuleRoad x = Due.road(Due.leg(1, 0, 0));
        x.string(0, 60, 60, 60);
        x.pack(0, 1, 0, 1);
        x.hours(2);
        x.pack(0, 1, 0, 1);
        DUE.is("of(1, 7) so far", x.of(1, 7), -1);
        Due.tell(x, ":5;");
        DUE.is("told in the hour in which it came", x.of(1, 7), 0);
        x.hours(1);
        x.pack(0, 1, 0, 1);
        Due.tell(x, "?");
        DUE.is("a fault is no bargain", x.of(2, 7), 0);
        x.hours(1);
        Due.tell(x, ":7;");
        Due.tell(x, "");
        Due.tell(x, ":9;");
        x.pack(0, 1, 0, 1);
        int[] bargains = {-1, 0, 0, 3};
        int[] pays = {0, 5, 5, 9};
        x.hours(1);
        Due.tell(x, ":1000;");
        for (int i = 0; i < 4; i++) {
            DUE.is("of(" + i + ", 7)", x.of(i, 7), bargains[i]);
            x.lay(0, 0, 0, i);
        }
        x.go(0, true);
        x.hours(1);
        for (int i = 0; i < 4; i++) {
            x.down(i);
            DUE.is("brought(" + i + ")", Due.brought(x, i), pays[i]);
        }
        DUE.is("count(9)", x.count(9), 19);
    }

    /** What a pack brings that came in hour 2, was held for 3 hours and delivered in hour 12. */
    private static int paid(String text, int kind, int weight) {
        MuleRoad x = Due.road(Due.leg(4, 0, 0));
        x.string(0, 60, 60, 60);
        DUE.is("telling '" + text + "'", Due.tell(x, text), 0);
        x.hours(2);
        x.pack(0, 1, kind, weight);
        x.pack(0, 1, 0, weight);
        x.snow(0, 3, 5);
        x.lay(0, 0, kind == 3 ? 2 : 0, 0);
        x.lay(0, 0, 1, 1);
        if (kind == 3) {
            x.down(1);
        }
        x.hours(5);
        x.go(0, true);
        x.hours(5);
        x.down(0);
        return Due.brought(x, 0);
    }

    private static void pay() {
        String[] kinds = {"salt", "wire", "mail", "glass"};
        for (int kind = 0; kind < 4; kind++) {
            for (int told = 0; told < 4; told++) {
                DUE.is(kinds[told] + " for kind " + kind, paid(kinds[told] + ":7;", kind, 5), told == kind ? 7 : 0);
            }
        }
        String[] words = {"weight", "hours", "held"};
        int[] values = {25, 10, 3};
        for (int i = 0; i < 3; i++) {
            for (int off = -1; off <= 1; off++) {
                String number = String.valueOf(values[i] + off);
                DUE.is(words[i] + "<" + number, paid(words[i] + "<" + number + ":1;", 1, 25), off > 0 ? 1 : 0);
                DUE.is(words[i] + "=" + number, paid(words[i] + "=" + number + ":1;", 1, 25), off == 0 ? 1 : 0);
                DUE.is(words[i] + ">" + number, paid(words[i] + ">" + number + ":1;", 1, 25), off < 0 ? 1 : 0);
            }
        }
        DUE.is("sum", paid(":100;salt:-30;wire:1000;:4;", 0, 5), 74);
        DUE.is("below 0", paid(":-9999;:-0001;", 0, 5), -10000);
        DUE.is("all terms", paid("salt and weight=5 and hours=10 and held=3:1;", 0, 5), 1);
        DUE.is("the first fails", paid("wire and weight=5 and hours=10 and held=3:1;", 0, 5), 0);
        DUE.is("the last fails", paid("salt and weight=5 and hours=10 and held=2:1;:8;", 0, 5), 8);
        DUE.is("never both", paid("salt and wire:1;", 0, 5), 0);
        DUE.is("twenty", paid(":9999;".repeat(20), 0, 5), 199980);
        DUE.is("none", paid("", 0, 5), 0);
    }

    private static void broughtThrows() {
        MuleRoad x = Due.road(Due.leg(1, 0, 0));
        x.string(0, 60, 60, 60);
        Due.tell(x, ":3;");
        x.pack(0, 1, 0, 1);
        int[] none = {-1, 1, MOST, LEAST};
        for (int n : none) {
            DUE.is("brought(" + n + ")", Due.brought(x, n), Due.THROWS);
        }
        DUE.is("brought(0) that waits", Due.brought(x, 0), Due.THROWS);
        x.lay(0, 0, 0, 0);
        DUE.is("brought(0) on a mule", Due.brought(x, 0), Due.THROWS);
        x.go(0, true);
        x.hours(1);
        DUE.is("brought(0) there, on the mule", Due.brought(x, 0), Due.THROWS);
        x.down(0);
        x.hours(5);
        DUE.is("brought(0)", Due.brought(x, 0), 3);
    }
}
