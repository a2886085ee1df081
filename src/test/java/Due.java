import java.nio.charset.StandardCharsets;
import java.util.Arrays;
import java.util.NoSuchElementException;

/** Counts answers that are not as due, and makes the objects that many tests begin with. */
final class Due {
    static final int THROWS = Integer.MIN_VALUE;
    private int wrong = 0;
    private String sentence = "";

    /** The sentence of the document that is tested from here on. */
    void sentence(String words) {
        sentence = "[" + words + "] ";
    }

    void is(String call, int got, int want) {
        if (got != want) {
            wrong++;
            System.out.println(sentence + call + " answered " + got + ", due is " + want);
        }
    }

    void end() {
        if (wrong != 0) {
            System.out.println(wrong + " answers are not as due");
            System.exit(1);
        }
    }

    /** Inns, the first one and legs of {hours, climbs, ledge (1, 0)}. */
    static MuleRoad road(int[]... legs) {
        MuleRoad x = new MuleRoad();
        x.inn(0, 0, false);
        for (int[] leg : legs) {
            x.inn(leg[0], leg[1], leg[2] == 1);
        }
        return x;
    }

    static int[] leg(int hours, int climbs, int ledge) {
        return new int[] {hours, climbs, ledge};
    }

    /** Makes the tape, which is empty, hold these bytes. */
    static void feed(MuleRoad x, byte[] text) {
        byte[] b = Arrays.copyOf(text, (text.length + 19) / 20 * 20);
        for (int i = 0; i < b.length; i += 20) {
            x.feed(number(b, i), number(b, i + 4), number(b, i + 8), number(b, i + 12), number(b, i + 16));
        }
        x.end(text.length);
    }

    static int number(byte[] b, int i) {
        return (b[i] & 255) << 24 | (b[i + 1] & 255) << 16 | (b[i + 2] & 255) << 8 | b[i + 3] & 255;
    }

    static int tell(MuleRoad x, String text) {
        feed(x, text.getBytes(StandardCharsets.ISO_8859_1));
        return x.bargain();
    }

    static int brought(MuleRoad x, int pack) {
        try {
            return x.brought(pack);
        } catch (NoSuchElementException e) {
            return THROWS;
        }
    }

    static void pass(MuleRoad x, int hours) {
        for (int left = hours; left > 0; left -= 100) {
            x.hours(Math.min(left, 100));
        }
    }
}
