import java.nio.charset.StandardCharsets;
import java.util.Arrays;
import java.util.Random;

/** Random runs of 512 calls, each answered by MuleRoad as by PlainRoad: all promises together. */
public final class ModelTest {
    private static final String[] BITS = {"salt", "wire", "mail", "glass", "weight", "hours", "held", "and", "and", "<", "=",
        ">", ":", ":", ";", ";", "-", "7", "30", "0012", "12345", " ", "\n", "x", "!"};
    private static final int[] WILD = {-1, -2, 3, 4, 6, 10, 59, 60, 61, 99, 100, 120, 121, 400, 9999, 10000,
        Integer.MAX_VALUE, Integer.MIN_VALUE};
    private final Random random;
    private final MuleRoad x = new MuleRoad();
    private final PlainRoad y = new PlainRoad();
    private final boolean wildly;
    private final StringBuilder told = new StringBuilder();
    private int wrong = 0;
    private int calls = 0;

    private ModelTest(long seed) {
        random = new Random(seed);
        wildly = seed % 3 == 0;
    }

    public static void main(String[] args) {
        int runs = args.length > 0 ? Integer.parseInt(args[0]) : 1500;
        for (int seed = 0; seed < runs; seed++) {
            ModelTest run = new ModelTest(seed);
            run.begin();
            while (run.calls < 505 && run.wrong == 0) {
                run.step();
            }
            if (run.wrong != 0) {
                System.out.println("seed " + seed + ":\n" + run.told);
                System.exit(1);
            }
        }
    }

    private void due(String call, int got, int want) {
        calls++;
        told.append(call).append(" = ").append(want).append('\n');
        if (got != want) {
            wrong++;
            told.append("  but answered ").append(got).append('\n');
        }
    }

    private int upTo(int n) {
        return random.nextInt(n + 1);
    }

    /** Mostly a number of 0 to n, now and then any other. */
    private int some(int n) {
        return random.nextInt(wildly ? 12 : 60) == 0 ? WILD[random.nextInt(WILD.length)] : upTo(Math.max(n, 0));
    }

    private int from(int least, int most) {
        return random.nextInt(wildly ? 12 : 60) == 0 ? WILD[random.nextInt(WILD.length)] : least + upTo(most - least);
    }

    private void begin() {
        due("inn(0, 0, false)", x.inn(0, 0, false), y.inn(0, 0, false));
        int inns = 1 + upTo(4);
        for (int i = 0; i < inns; i++) {
            inn();
        }
        for (int i = upTo(3); i >= 0; i--) {
            string();
        }
    }

    private void step() {
        int dice = random.nextInt(100);
        if (dice < 1) {
            inn();
        } else if (dice < 2) {
            string();
        } else if (dice < 5) {
            snow();
        } else if (dice < 17) {
            pack();
        } else if (dice < 40) {
            lay();
        } else if (dice < 50) {
            down();
        } else if (dice < 62) {
            go();
        } else if (dice < 70) {
            hours();
        } else if (dice < 73) {
            bargain();
        } else {
            ask(random.nextInt(random.nextInt(6) == 0 ? 9 : 7));
        }
    }

    private void inn() {
        int a = from(1, random.nextBoolean() ? 3 : 9);
        int b = from(0, 9);
        boolean c = random.nextInt(3) == 0;
        due("inn(" + a + ", " + b + ", " + c + ")", x.inn(a, b, c), y.inn(a, b, c));
    }

    private void string() {
        int a = some(y.count(1) - 1);
        int b = from(20, 120);
        int c = from(20, 120);
        int d = from(20, 120);
        due("string(" + a + ", " + b + ", " + c + ", " + d + ")", x.string(a, b, c, d), y.string(a, b, c, d));
    }

    private void snow() {
        int a = some(y.count(1) - 2);
        int b = from(Math.max(0, y.count(0) - 2), y.count(0) + 6);
        int c = b + from(-1, 6);
        due("snow(" + a + ", " + b + ", " + c + ")", x.snow(a, b, c), y.snow(a, b, c));
    }

    private void pack() {
        int a = some(y.count(1) - 1);
        int b = some(y.count(1) - 1);
        int c = some(3);
        int d = from(1, random.nextBoolean() ? 20 : 60);
        due("pack(" + a + ", " + b + ", " + c + ", " + d + ")", x.pack(a, b, c, d), y.pack(a, b, c, d));
    }

    private void lay() {
        int a = some(y.count(2) - 1);
        int b = some(2);
        int d = some(y.count(3) - 1);
        // So that many runs get on: a pack that waits where a string is, glass on top, the lighter side.
        for (int i = 0; i < 20 && !(y.of(d, 3) == 0 && y.of(d, 4) == y.stringOf(a, 0)); i++) {
            a = some(y.count(2) - 1);
            d = some(y.count(3) - 1);
        }
        int c = y.of(d, 0) == 3 ? 2 : y.muleOf(a, b, 4) > y.muleOf(a, b, 5) ? 1 : 0;
        if (random.nextInt(8) == 0) {
            c = some(2);
        }
        due("lay(" + a + ", " + b + ", " + c + ", " + d + ")", x.lay(a, b, c, d), y.lay(a, b, c, d));
    }

    private void down() {
        int a = some(y.count(3) - 1);
        for (int i = 0; i < 20 && y.of(a, 3) != 1; i++) {
            a = some(y.count(3) - 1);
        }
        due("down(" + a + ")", x.down(a), y.down(a));
        due("brought(" + a + ")", Due.brought(x, a), y.brought(a));
    }

    private void go() {
        int a = some(y.count(2) - 1);
        boolean up = random.nextBoolean();
        due("go(" + a + ", " + up + ")", x.go(a, up), y.go(a, up));
    }

    private void hours() {
        int a = from(1, random.nextInt(12) == 0 ? 100 : 3);
        due("hours(" + a + ")", x.hours(a), y.hours(a));
    }

    private void bargain() {
        StringBuilder text = new StringBuilder();
        int rules = random.nextInt(10) == 0 ? 21 : upTo(6);
        for (int i = 0; i < rules; i++) {
            rule(text, rules > 20 ? 0 : random.nextInt(12) == 0 ? 5 : upTo(4));
        }
        if (random.nextInt(3) == 0) {
            int at = upTo(text.length());
            text.insert(at, BITS[random.nextInt(BITS.length)]);
        }
        if (random.nextInt(6) == 0) {
            text.setLength(upTo(text.length()));
        }
        byte[] b = text.toString().getBytes(StandardCharsets.ISO_8859_1);
        byte[] long20 = Arrays.copyOf(b, (b.length + 19) / 20 * 20);
        for (int i = 0; i < long20.length; i += 20) {
            int[] n = new int[5];
            for (int j = 0; j < 5; j++) {
                n[j] = Due.number(long20, i + 4 * j);
            }
            due("feed(" + Arrays.toString(n) + ")", x.feed(n[0], n[1], n[2], n[3], n[4]), y.feed(n));
        }
        int end = random.nextInt(20) == 0 ? WILD[random.nextInt(WILD.length)] : b.length;
        due("end(" + end + ")", x.end(end), y.end(end));
        due("bargain() of '" + text + "'", x.bargain(), y.bargain());
        due("place()", x.place(), y.place());
    }

    private void rule(StringBuilder text, int terms) {
        for (int i = 0; i < terms; i++) {
            text.append(i == 0 ? "" : " and ");
            int word = random.nextInt(7);
            text.append(BITS[word]);
            if (word > 3) {
                text.append(BITS[9 + random.nextInt(3)]).append(upTo(word == 4 ? 60 : 20));
            }
        }
        text.append(random.nextBoolean() ? ":" : " : ").append(random.nextInt(3) == 0 ? "-" : "").append(upTo(99)).append(";");
    }

    private void ask(int sort) {
        int string = some(y.count(2) - 1);
        int mule = some(2);
        int pack = some(y.count(3) - 1);
        int what = some(9);
        int hour = some(y.count(0));
        if (sort == 0) {
            due("stringOf(" + string + ", " + what + ")", x.stringOf(string, what), y.stringOf(string, what));
        } else if (sort == 1) {
            due("muleOf(" + string + ", " + mule + ", " + what + ")", x.muleOf(string, mule, what),
                y.muleOf(string, mule, what));
        } else if (sort == 2) {
            due("of(" + pack + ", " + what + ")", x.of(pack, what), y.of(pack, what));
        } else if (sort == 3) {
            due("was(" + pack + ", " + hour + ")", x.was(pack, hour), y.was(pack, hour));
        } else if (sort == 4) {
            due("count(" + what + ")", x.count(what), y.count(what));
        } else if (sort == 5) {
            due("brought(" + pack + ")", Due.brought(x, pack), y.brought(pack));
        } else if (sort == 6) {
            int leg = some(y.count(1) - 2);
            int when = some(y.count(0) + 5);
            due("shut(" + leg + ", " + when + ", " + hour + ")", x.shut(leg, when, hour), y.shut(leg, when, hour));
        } else if (sort == 7) {
            due("best(" + string + ", " + mule + ")", x.best(string, mule), y.best(string, mule));
        } else {
            due("bestOf(" + string + ", " + mule + ", " + pack + ")", x.bestOf(string, mule, pack),
                y.bestOf(string, mule, pack));
        }
    }
}
