import java.nio.charset.StandardCharsets;

/** Boundary cases of promises 13 to 16 and 20, sentence by sentence. */
public final class BargainEdgesTest {
    private static final Due DUE = new Due();
    private static final int MOST = Integer.MAX_VALUE;
    private static final int LEAST = Integer.MIN_VALUE;

    public static void main(String[] args) {
        highestFirst();
        behindTheTape();
        fourHundredBytes();
        firstBytesAlone();
        endHasLess();
        endBelowNothing();
        textOfRules();
        rule();
        terms();
        numberHasOneToFourDigits();
        blanks();
        otherBytes();
        wordsAsLongAsTheyStand();
        longerNumber();
        theEnd();
        tokensThatMayNotStand();
        rule21();
        term5();
        ifTheseMayStandThere();
        firstFromTheLeft();
        tapeIsEmptyThen();
        itsNumber();
        tenAreThere();
        placeOfLatest();
        placeNotOfNone();
        untilTheNextOne();
        inForceAsItCame();
        nothingWithoutBargain();
        relations();
        eachKind();
        faultLeavesNothing();
        lessThose();
        allTermsHold();
        brings();
        broughtThrows();
        DUE.end();
    }

    private static byte[] bytes(String text) {
        return text.getBytes(StandardCharsets.ISO_8859_1);
    }

    private static void good(String text) {
        MuleRoad x = new MuleRoad();
        DUE.is("'" + text + "'", Due.tell(x, text), 0);
        DUE.is("place in '" + text + "'", x.place(), -1);
        DUE.is("bargains after '" + text + "'", x.count(5), 1);
    }

    private static void fault(String text, int kind, int place) {
        MuleRoad x = new MuleRoad();
        DUE.is("'" + text + "'", Due.tell(x, text), -2 - kind);
        DUE.is("place in '" + text + "'", x.place(), place);
        DUE.is("bargains after '" + text + "'", x.count(5), 0);
    }

    private static void highestFirst() {
        DUE.sentence("13: Twenty bytes, of each number the highest first");
        for (int at = 0; at < 20; at++) {
            int[] n = {0x20202020, 0x20202020, 0x20202020, 0x20202020, 0x20202020};
            int shift = 24 - 8 * (at % 4);
            n[at / 4] = n[at / 4] & ~(255 << shift) | 255 << shift;
            MuleRoad x = new MuleRoad();
            DUE.is("feed", x.feed(n[0], n[1], n[2], n[3], n[4]), 20);
            DUE.is("byte 255 at " + at, x.bargain(), -3);
            DUE.is("its place", x.place(), at);
        }
        MuleRoad y = new MuleRoad();
        y.feed(0x3a31323b, 0x20202020, 0x20202020, 0x20202020, 0x20202020);
        DUE.is("':12;' by its bytes", y.bargain(), 0);
        for (int wild : new int[] {0, -1, MOST, LEAST}) {
            MuleRoad x = new MuleRoad();
            DUE.is("feed of " + wild, x.feed(wild, wild, wild, wild, wild), 20);
            DUE.is("its bargain", x.bargain(), -3);
            DUE.is("its place", x.place(), 0);
        }
    }

    private static void behindTheTape() {
        DUE.sentence("13: bytes come behind the TAPE");
        MuleRoad x = new MuleRoad();
        Due.feed(x, bytes(":1;"));
        DUE.is("count(6)", x.count(6), 3);
        x.feed(0x3a323b20, 0x20202020, 0x20202020, 0x20202020, 0x20202021);
        DUE.is("count(6)", x.count(6), 23);
        DUE.is("the last byte is wrong", x.bargain(), -3);
        DUE.is("its place", x.place(), 22);
    }

    private static void fourHundredBytes() {
        DUE.sentence("13: how many it has; NONE if these would be more than 400");
        for (int size = 379; size <= 400; size++) {
            MuleRoad x = new MuleRoad();
            for (int n = 20; n <= 400; n += 20) {
                DUE.is("feed to " + n, x.feed(0, 0, 0, 0, 0), n);
            }
            x.end(size);
            DUE.is("feed at " + size, x.feed(0, 0, 0, 0, 0), size <= 380 ? size + 20 : -1);
            DUE.is("count(6)", x.count(6), size <= 380 ? size + 20 : size);
        }
        good(" ".repeat(397) + ":1;");
        fault(" ".repeat(398) + ":1", 1, 400);
    }

    private static void firstBytesAlone() {
        DUE.sentence("14: The TAPE has its first n bytes alone: n");
        MuleRoad x = new MuleRoad();
        DUE.is("end(0) of nothing", x.end(0), 0);
        Due.feed(x, bytes(":1;:2;:3;!"));
        DUE.is("end(10), as it is", x.end(10), 10);
        DUE.is("end(9)", x.end(9), 9);
        DUE.is("count(6)", x.count(6), 9);
        DUE.is("the bytes are right", x.bargain(), 0);
        Due.feed(x, bytes(":1;"));
        DUE.is("end(0)", x.end(0), 0);
        DUE.is("count(6)", x.count(6), 0);
        Due.feed(x, bytes("salt : 5 ; and more"));
        x.end(10);
        DUE.is("feed behind", x.feed(0x77697265, 0x3a373b20, 0x20202020, 0x20202020, 0x20202020), 30);
        DUE.is("what was cut is gone", x.bargain(), 1);
    }

    private static void endHasLess() {
        DUE.sentence("14: NONE if it has less");
        MuleRoad x = new MuleRoad();
        DUE.is("end(1) of nothing", x.end(1), -1);
        x.feed(0, 0, 0, 0, 0);
        for (int n : new int[] {21, 40, 400, 401, MOST}) {
            DUE.is("end(" + n + ")", x.end(n), -1);
        }
        DUE.is("count(6)", x.count(6), 20);
        x.end(5);
        DUE.is("end(6) of 5", x.end(6), -1);
    }

    private static void endBelowNothing() {
        DUE.sentence("14: NONE if n is below 0");
        MuleRoad x = new MuleRoad();
        x.feed(0, 0, 0, 0, 0);
        for (int n : new int[] {-1, -20, LEAST}) {
            DUE.is("end(" + n + ")", x.end(n), -1);
        }
        DUE.is("count(6)", x.count(6), 20);
    }

    private static void textOfRules() {
        DUE.sentence("TEXT, at most 400 bytes: {RULE}");
        good("");
        good(" ");
        good("\n");
        good(":1;");
        good(":1;:2;");
        good(":1;".repeat(20));
        good("salt and salt and salt and salt:1;".repeat(11));
        good(":1;salt:1;".repeat(10));
    }

    private static void rule() {
        DUE.sentence("RULE: [TERM {and TERM}] : [-] NUMBER ;");
        good("salt:1;");
        good("salt:-1;");
        good(":-1;");
        good("salt and wire:1;");
        good("salt and wire and mail:1;");
        good("salt and wire and mail and glass:-1;");
        fault("and:1;", 1, 0);
        fault("salt and:1;", 1, 8);
        fault("salt wire:1;", 1, 5);
        fault("salt and and wire:1;", 1, 9);
        fault("salt 1;", 1, 5);
        fault("salt;", 1, 4);
        fault("salt::1;", 1, 5);
        fault(":;", 1, 1);
        fault(":--1;", 1, 2);
        fault(":1-;", 1, 2);
        fault(":-;", 1, 2);
        fault(":1", 1, 2);
        fault(":1:", 1, 2);
        fault(":1 salt:1;", 1, 3);
        fault("-1;", 1, 0);
        fault("1;", 1, 0);
        fault(";", 1, 0);
    }

    private static void terms() {
        DUE.sentence("TERM: salt, wire, mail, glass, or WORD REL NUMBER");
        for (String kind : new String[] {"salt", "wire", "mail", "glass"}) {
            good(kind + ":1;");
            fault(kind + "=1:1;", 1, kind.length());
            fault(kind + " 1:1;", 1, kind.length() + 1);
        }
        for (String word : new String[] {"weight", "hours", "held"}) {
            int n = word.length();
            for (String rel : new String[] {"<", "=", ">"}) {
                good(word + rel + "1:1;");
                fault(word + rel + ":1;", 1, n + 1);
                fault(word + rel + "-1:1;", 1, n + 1);
                fault(word + rel + rel + "1:1;", 1, n + 1);
                fault(word + rel + word + ":1;", 1, n + 1);
                fault(word + rel + "1" + rel + "1:1;", 1, n + 2);
            }
            fault(word + ":1;", 1, n);
            fault(word + " 1:1;", 1, n + 1);
            fault(word + " and salt:1;", 1, n + 1);
            fault("1=" + word + ":1;", 1, 0);
        }
    }

    private static void numberHasOneToFourDigits() {
        DUE.sentence("A NUMBER has 1 to 4 digits");
        for (String n : new String[] {"0", "7", "10", "999", "1000", "9999", "0000", "0001"}) {
            good(":" + n + ";");
            good(":-" + n + ";");
            good("weight<" + n + ":" + n + ";");
        }
        fault(":10000;", 1, 1);
        fault(":00000;", 1, 1);
        fault(":-10000;", 1, 2);
        fault("held>10000:1;", 1, 5);
        fault(": " + "1".repeat(300) + ";", 1, 2);
    }

    private static void blanks() {
        DUE.sentence("TOKENS, blanks (32, 10) between where one likes");
        good(" salt and held < 5 : - 1 ; ");
        good("\nsalt\nand\nheld\n<\n5\n:\n-\n1\n;\n");
        good("  \n \n salt  \n\n  and held=1and mail:-1;\n :\n\n 2 ;  ");
        good("salt and held<5:-1;");
        fault("sa lt:1;", 1, 0);
        fault("salt an d wire:1;", 1, 5);
        fault(":1 2;", 1, 3);
        fault(":12 345;", 1, 4);
        fault("held < = 1:1;", 1, 7);
    }

    private static void otherBytes() {
        DUE.sentence("1 a byte with which no TEXT goes on");
        for (int b = 0; b < 256; b++) {
            boolean letter = b >= 'a' && b <= 'z';
            boolean digit = b >= '0' && b <= '9';
            boolean blank = b == 32 || b == 10;
            MuleRoad x = new MuleRoad();
            Due.feed(x, new byte[] {' ', ':', '1', (byte) b, ';'});
            DUE.is("byte " + b + " behind a number", x.bargain(), blank || digit ? 0 : -3);
            DUE.is("its place", x.place(), blank || digit ? -1 : b == ';' ? 4 : 3);
            Due.feed(x, new byte[] {'s', 'a', 'l', 't', (byte) b});
            DUE.is("byte " + b + " behind a word", x.bargain(), -3);
            DUE.is("its place", x.place(), letter ? 0 : blank || b == ':' ? 5 : 4);
        }
    }

    private static void wordsAsLongAsTheyStand() {
        DUE.sentence("WORDS (small letters, as many as stand together)");
        fault("salts:1;", 1, 0);
        fault("saltsalt:1;", 1, 0);
        fault("saltand wire:1;", 1, 0);
        fault("salt andwire:1;", 1, 5);
        fault("sal:1;", 1, 0);
        fault("xsalt:1;", 1, 0);
        fault("weights<1:1;", 1, 0);
        fault("hour<1:1;", 1, 0);
        fault("Salt:1;", 1, 0);
        fault("sAlt:1;", 1, 0);
        fault("SALT:1;", 1, 0);
        fault("a".repeat(400), 1, 0);
        for (String word : new String[] {"salt", "wire", "mail", "glass", "weight<1", "hours<1", "held<1"}) {
            for (int i = 0; i < word.length() && word.charAt(i) >= 'a'; i++) {
                fault(word.substring(0, i) + 'z' + word.substring(i + 1) + ":1;", 1, 0);
            }
        }
        for (String word : new String[] {"znd", "azd", "anz", "an", "andz"}) {
            fault("salt " + word + " wire:1;", 1, 5);
        }
        good("held<5and salt:1;");
        fault("held5:1;", 1, 4);
    }

    private static void longerNumber() {
        DUE.sentence("1: a longer NUMBER at its first byte");
        fault(":12345;", 1, 1);
        fault(":  12345", 1, 3);
        fault(":- 99999;", 1, 3);
        fault("weight = 12345 : 1;", 1, 9);
        fault("12345", 1, 0);
        fault("salt 12345", 1, 5);
        fault(":1234 5;", 1, 6);
        fault(":1234;12345", 1, 6);
    }

    private static void theEnd() {
        DUE.sentence("1: the end: at how many bytes there are");
        String text = "salt and held<5:-1;";
        int[] good = {0, 19};
        int[] words = {1, 2, 3, 6, 7, 10, 11, 12};
        int[] starts = {0, 0, 0, 5, 5, 9, 9, 9};
        for (int n = 0; n <= text.length(); n++) {
            int place = n == good[0] || n == good[1] ? -1 : n;
            for (int i = 0; i < words.length; i++) {
                place = n == words[i] ? starts[i] : place;
            }
            MuleRoad x = new MuleRoad();
            DUE.is("the first " + n + " bytes", Due.tell(x, text.substring(0, n)), place == -1 ? 0 : -3);
            DUE.is("place in the first " + n + " bytes", x.place(), place);
        }
        fault("salt   ", 1, 7);
        fault(":\n\n", 1, 3);
        fault(":1 ", 1, 3);
        fault("salt" + " ".repeat(396), 1, 400);
    }

    private static void tokensThatMayNotStand() {
        DUE.sentence("1: a TOKEN with which no TEXT goes on");
        String[] tokens = {"salt", "held", "and", "7", "<", ":", ";", "-"};
        String[] heads = {"", "salt ", "held ", "held< ", "held<7 ", "salt and ", ": ", ":- ", ":7 ", ":7; "};
        String[] may = {"salt held :", "and :", "<", "7", "and :", "salt held", "7 -", "7", ";", "salt held :"};
        for (int i = 0; i < heads.length; i++) {
            for (String token : tokens) {
                boolean stands = (" " + may[i] + " ").contains(" " + token + " ");
                MuleRoad x = new MuleRoad();
                int got = Due.tell(x, heads[i] + token + "!");
                DUE.is("'" + heads[i] + token + "!'", got, -3);
                DUE.is("its place", x.place(), heads[i].length() + (stands ? token.length() : 0));
            }
        }
    }

    private static void rule21() {
        DUE.sentence("2 at the first TOKEN of a 21st RULE");
        String twenty = ":1;".repeat(20);
        good(twenty);
        good(twenty + " \n ");
        fault(twenty + ":1;", 2, 60);
        fault(twenty + "  :", 2, 62);
        for (String first : new String[] {"salt", "wire", "mail", "glass", "weight", "hours", "held"}) {
            fault(twenty + first, 2, 60);
            fault(twenty + "\n" + first + "!", 2, 61);
        }
        fault(":1;".repeat(133) + " ", 2, 60);
    }

    private static void term5() {
        DUE.sentence("2 at the first TOKEN of a 5th TERM of a RULE");
        String four = "salt and salt and salt and salt";
        good(four + ":1;");
        fault(four + " and salt:1;", 2, 36);
        fault(four + " and weight", 2, 36);
        fault(four + " and\n\nheld!", 2, 37);
        fault("held<1 and held<1 and held<1 and held<1 and mail:1;", 2, 44);
        fault(":1;" + four + " and glass:1;", 2, 39);
        good(four + ":1;" + four + ":1;");
        String last = ":1;".repeat(19) + four;
        good(last + ":1;");
        fault(last + " and wire:1;", 2, 57 + 36);
    }

    private static void ifTheseMayStandThere() {
        DUE.sentence("2: (if these may stand there)");
        String twenty = ":1;".repeat(20);
        String four = "salt and salt and salt and salt and ";
        for (String wrong : new String[] {"and", ";", "-", "<", "7", "x", "salts", "12345", "!", "S"}) {
            fault(twenty + wrong, 1, 60);
            fault(four + wrong, 1, 36);
        }
        fault(four + ":1;", 1, 36);
        fault(four, 1, 36);
        fault(four.substring(0, 35), 1, 35);
    }

    private static void firstFromTheLeft() {
        DUE.sentence("FAULTS, the first from the left");
        String twenty = ":1;".repeat(20);
        String five = "salt and salt and salt and salt and salt:1;";
        fault("! ?", 1, 0);
        fault(five + "!", 2, 36);
        fault("! " + five, 1, 0);
        fault(":1;;" + twenty, 1, 3);
        fault(twenty + five, 2, 60);
        fault(five + twenty, 2, 36);
        fault(":12345;" + five, 1, 1);
        fault(":1;".repeat(19) + ":1" + ":1;", 1, 59);
    }

    private static void tapeIsEmptyThen() {
        DUE.sentence("15: The TAPE (empty then)");
        MuleRoad x = new MuleRoad();
        for (String text : new String[] {":1;", "", "!", ":1;".repeat(21)}) {
            Due.tell(x, text);
            DUE.is("count(6) after '" + text + "'", x.count(6), 0);
            DUE.is("end(1) after '" + text + "'", x.end(1), -1);
        }
    }

    private static void itsNumber() {
        DUE.sentence("15: its number; with a FAULT 2 less than minus its kind (-3, -4)");
        MuleRoad x = new MuleRoad();
        DUE.is("the first", Due.tell(x, ":1;"), 0);
        DUE.is("a fault 1", Due.tell(x, "!"), -3);
        DUE.is("a fault 2", Due.tell(x, ":1;".repeat(21)), -4);
        DUE.is("count(5)", x.count(5), 1);
        DUE.is("the second", Due.tell(x, ":1;"), 1);
        DUE.is("count(5)", x.count(5), 2);
    }

    private static void tenAreThere() {
        DUE.sentence("15: NONE: ten are there (the TAPE stays)");
        MuleRoad x = new MuleRoad();
        for (int i = 0; i < 10; i++) {
            DUE.is("bargain " + i, Due.tell(x, ":1;"), i);
        }
        Due.feed(x, bytes(":1;"));
        DUE.is("an eleventh", x.bargain(), -1);
        DUE.is("count(6)", x.count(6), 3);
        DUE.is("count(5)", x.count(5), 10);
        DUE.is("bytes come behind it", x.feed(0, 0, 0, 0, 0), 23);
        DUE.is("with a fault", x.bargain(), -1);
        DUE.is("count(6)", x.count(6), 23);
        x.end(0);
        DUE.is("an empty one", x.bargain(), -1);
    }

    private static void placeOfLatest() {
        DUE.sentence("16: The place of the FAULT of the latest bargain(); NONE without");
        MuleRoad x = new MuleRoad();
        DUE.is("of a new object", x.place(), -1);
        Due.tell(x, "   !");
        DUE.is("a fault at 3", x.place(), 3);
        DUE.is("asked again", x.place(), 3);
        x.feed(0, 0, 0, 0, 0);
        x.end(0);
        DUE.is("the tape has changed", x.place(), 3);
        Due.tell(x, "!");
        DUE.is("a fault at 0", x.place(), 0);
        Due.tell(x, ":1;");
        DUE.is("no fault", x.place(), -1);
        Due.tell(x, ":1;".repeat(21));
        DUE.is("a fault 2 at 60", x.place(), 60);
        Due.tell(x, ";".repeat(400));
        DUE.is("a fault at 0", x.place(), 0);
        Due.tell(x, "salt" + " ".repeat(396));
        DUE.is("a fault at 400", x.place(), 400);
    }

    private static void placeNotOfNone() {
        DUE.sentence("16: of the latest bargain() that was not NONE");
        MuleRoad x = new MuleRoad();
        for (int i = 0; i < 10; i++) {
            Due.tell(x, "  !");
            DUE.is("a fault at 2", x.place(), 2);
            Due.tell(x, ":1;");
        }
        Due.feed(x, bytes(" !"));
        DUE.is("an eleventh", x.bargain(), -1);
        DUE.is("place() of the tenth", x.place(), -1);
    }

    private static void untilTheNextOne() {
        DUE.sentence("in force from the HOUR on in which it is told, until the next one");
        MuleRoad x = Due.road(Due.leg(1, 0, 0));
        int[] told = {2, 4, 4, 7};
        int number = 0;
        for (int hour = 0; hour < 9; hour++) {
            for (int i = 0; i < told.length; i++) {
                if (told[i] == hour) {
                    DUE.is("bargain in hour " + hour, Due.tell(x, ":" + i + ";"), number);
                    number++;
                }
            }
            x.pack(0, 1, 0, 1);
            x.hours(1);
        }
        int[] want = {-1, -1, 0, 0, 2, 2, 2, 3, 3};
        for (int hour = 0; hour < want.length; hour++) {
            DUE.is("of the pack of hour " + hour, x.of(hour, 7), want[hour]);
        }
    }

    private static void inForceAsItCame() {
        DUE.sentence("by the BARGAIN in force in the HOUR in which it came");
        MuleRoad x = Due.road(Due.leg(1, 0, 0));
        x.string(0, 60, 60, 60);
        Due.tell(x, ":10;");
        x.pack(0, 1, 0, 1);
        x.hours(1);
        Due.tell(x, ":20;");
        x.pack(0, 1, 0, 1);
        x.lay(0, 0, 0, 0);
        x.lay(0, 0, 0, 1);
        x.go(0, true);
        x.hours(1);
        Due.tell(x, ":40;");
        x.down(0);
        x.down(1);
        Due.tell(x, ":80;");
        DUE.is("brought(0)", Due.brought(x, 0), 10);
        DUE.is("brought(1)", Due.brought(x, 1), 20);
        DUE.is("count(9)", x.count(9), 30);
    }

    private static void nothingWithoutBargain() {
        DUE.sentence("Nothing without a BARGAIN");
        MuleRoad x = Due.road(Due.leg(1, 0, 0));
        x.string(0, 60, 60, 60);
        x.pack(0, 1, 0, 1);
        x.lay(0, 0, 0, 0);
        x.go(0, true);
        x.hours(1);
        Due.tell(x, ":10;");
        x.down(0);
        DUE.is("brought(0)", Due.brought(x, 0), 0);
        DUE.is("of(0, 7)", x.of(0, 7), -1);
        DUE.is("count(9)", x.count(9), 0);
        DUE.is("count(8)", x.count(8), 1);
    }

    /** Of a pack of wire, weight 10, that came in hour 3, was held for 2 hours and delivered in hour 8. */
    private static int paid(String text) {
        MuleRoad x = Due.road(Due.leg(3, 0, 0));
        x.string(0, 60, 60, 60);
        x.hours(3);
        DUE.is("telling '" + text + "'", Due.tell(x, text), 0);
        x.pack(0, 1, 1, 10);
        x.snow(0, 3, 4);
        x.lay(0, 0, 0, 0);
        x.hours(2);
        x.go(0, true);
        x.hours(3);
        x.down(0);
        return Due.brought(x, 0);
    }

    private static void relations() {
        DUE.sentence("its KIND; its WEIGHT; hours; held; REL: < = >");
        String[] words = {"weight", "hours", "held"};
        int[] values = {10, 5, 2};
        for (int i = 0; i < 3; i++) {
            for (int n : new int[] {0, values[i] - 1, values[i], values[i] + 1, 9999}) {
                DUE.is(words[i] + "<" + n, paid(words[i] + "<" + n + ":1;"), values[i] < n ? 1 : 0);
                DUE.is(words[i] + "=" + n, paid(words[i] + "=" + n + ":1;"), values[i] == n ? 1 : 0);
                DUE.is(words[i] + ">" + n, paid(words[i] + ">" + n + ":1;"), values[i] > n ? 1 : 0);
            }
            String zeros = values[i] < 10 ? "=000" : "=00";
            DUE.is(words[i] + " with zeros ahead", paid(words[i] + zeros + values[i] + ":1;"), 1);
        }
        DUE.is("salt", paid("salt:1;"), 0);
        DUE.is("wire", paid("wire:1;"), 1);
        DUE.is("mail", paid("mail:1;"), 0);
        DUE.is("glass", paid("glass:1;"), 0);
    }

    private static void eachKind() {
        DUE.sentence("a KIND (0 salt, 1 wire, 2 mail, 3 glass)");
        MuleRoad x = Due.road(Due.leg(1, 0, 0));
        x.string(0, 60, 60, 60);
        Due.tell(x, "salt:1;wire:20;mail:300;glass:4000;");
        for (int kind = 0; kind < 4; kind++) {
            x.pack(0, 1, kind, 1);
            x.lay(0, 0, kind == 3 ? 2 : 0, kind);
        }
        x.go(0, true);
        x.hours(1);
        int[] want = {1, 20, 300, 4000};
        for (int kind = 0; kind < 4; kind++) {
            x.down(kind);
            DUE.is("brought(" + kind + ")", Due.brought(x, kind), want[kind]);
        }
        DUE.is("count(9)", x.count(9), 4321);
    }

    private static void faultLeavesNothing() {
        DUE.sentence("15: with a FAULT it is no BARGAIN");
        MuleRoad x = Due.road(Due.leg(1, 0, 0));
        x.string(0, 60, 60, 60);
        Due.tell(x, ":100;wire:200;!");
        Due.tell(x, ":400;salt and wire");
        x.pack(0, 1, 0, 1);
        DUE.is("of(0, 7)", x.of(0, 7), -1);
        x.hours(1);
        DUE.is("a bargain behind faults", Due.tell(x, ":1;salt:2;"), 0);
        x.pack(0, 1, 0, 1);
        Due.tell(x, ":800;" + ":1;".repeat(20));
        DUE.is("of(1, 7)", x.of(1, 7), 0);
        x.lay(0, 0, 0, 1);
        x.go(0, true);
        x.hours(1);
        x.down(1);
        DUE.is("brought(1)", Due.brought(x, 1), 3);
    }

    private static void lessThose() {
        DUE.sentence("the sum of the NUMBERS (less those with - )");
        DUE.is("one", paid(":9999;"), 9999);
        DUE.is("less one", paid(":-9999;"), -9999);
        DUE.is("nothing", paid(":0;"), 0);
        DUE.is("less nothing", paid(":-0;"), 0);
        DUE.is("-1, as NONE is", paid(":5;:-6;"), -1);
        DUE.is("twenty", paid(":9999;".repeat(20)), 199980);
        DUE.is("less twenty", paid(":-9999;".repeat(20)), -199980);
        DUE.is("zeros ahead", paid(":0012;"), 12);
    }

    private static void allTermsHold() {
        DUE.sentence("all RULES of which all TERMS hold (one without TERMS always does)");
        DUE.is("no rule", paid(""), 0);
        DUE.is("no terms", paid(":3;"), 3);
        String[] hold = {"wire", "weight=10", "hours=5", "held=2"};
        String[] fail = {"salt", "weight<10", "hours>5", "held=3"};
        for (int failing = 0; failing < 16; failing++) {
            StringBuilder text = new StringBuilder(":100;");
            for (int i = 0; i < 4; i++) {
                text.append(i == 0 ? "" : " and ").append((failing >> i & 1) == 1 ? fail[i] : hold[i]);
            }
            text.append(":7;wire:20;salt:40;");
            DUE.is("'" + text + "'", paid(text.toString()), failing == 0 ? 127 : 120);
        }
        DUE.is("one term twice", paid("wire and wire:1;"), 1);
        DUE.is("two that exclude each other", paid("weight<10 and weight>10:1;"), 0);
        DUE.is("two bounds", paid("weight>9 and weight<11:1;"), 1);
        DUE.is("the twentieth rule alone", paid("salt:1;".repeat(19) + "wire:2;"), 2);
    }

    private static void brings() {
        DUE.sentence("hours: HOURS from that in which it came to that in which it is DELIVERED");
        MuleRoad x = Due.road(Due.leg(1, 0, 0));
        x.string(0, 60, 60, 60);
        Due.tell(x, "hours=1:1;hours=51:2;held=0:4;");
        x.pack(0, 1, 0, 1);
        x.pack(0, 1, 0, 1);
        x.lay(0, 0, 0, 0);
        x.lay(0, 0, 0, 1);
        x.go(0, true);
        x.hours(1);
        x.down(0);
        x.snow(0, 0, 99);
        x.hours(50);
        x.down(1);
        DUE.is("delivered in the next hour", Due.brought(x, 0), 5);
        DUE.is("it stayed on the mule for 50 hours", Due.brought(x, 1), 6);
        x.hours(100);
        DUE.is("what it brought stays", Due.brought(x, 0), 5);
    }

    private static void broughtThrows() {
        DUE.sentence("20: NoSuchElementException: no such PACK, it isn't DELIVERED");
        MuleRoad x = Due.road(Due.leg(1, 0, 0));
        x.string(0, 60, 60, 60);
        DUE.is("without packs", Due.brought(x, 0), Due.THROWS);
        Due.tell(x, ":-1;");
        x.pack(0, 1, 0, 1);
        for (int pack : new int[] {-1, 1, 99, 100, MOST, LEAST}) {
            DUE.is("brought(" + pack + ")", Due.brought(x, pack), Due.THROWS);
        }
        DUE.is("it waits", Due.brought(x, 0), Due.THROWS);
        x.lay(0, 0, 0, 0);
        DUE.is("on a mule", Due.brought(x, 0), Due.THROWS);
        x.go(0, true);
        DUE.is("on a leg", Due.brought(x, 0), Due.THROWS);
        x.hours(1);
        DUE.is("on a mule at the inn it is for", Due.brought(x, 0), Due.THROWS);
        x.down(0);
        DUE.is("delivered", Due.brought(x, 0), -1);
    }
}
