import java.nio.charset.StandardCharsets;
import java.util.NoSuchElementException;

/** What the tests share: comparing, feeding a text, and the end with its exit code. */
final class Check {
    static final String INDEX = "IndexOutOfBoundsException";
    static final String ELEMENT = "NoSuchElementException";

    private static int wrong = 0;
    private static int made = 0;

    private Check() {
    }

    static void due(String call, long got, long want) {
        made++;
        if (got != want) {
            wrong++;
            System.out.println(call + " answered " + got + ", due is " + want);
        }
    }

    static void due(String call, boolean got, boolean want) {
        due(call, got ? 1 : 0, want ? 1 : 0);
    }

    static void dueText(String call, String got, String want) {
        made++;
        if (!got.equals(want)) {
            wrong++;
            System.out.println(call + " answered " + got + ", due is " + want);
        }
    }

    /** What cell answers, or the name of what it throws. */
    static String cell(IceFair fair, int x, int y, int what) {
        try {
            return String.valueOf(fair.cell(x, y, what));
        } catch (IndexOutOfBoundsException e) {
            return INDEX;
        } catch (NoSuchElementException e) {
            return ELEMENT;
        }
    }

    /** What look answers, or the name of what it throws. */
    static String look(IceFair fair, int booth, int what) {
        try {
            return String.valueOf(fair.look(booth, what));
        } catch (IndexOutOfBoundsException e) {
            return INDEX;
        } catch (NoSuchElementException e) {
            return ELEMENT;
        }
    }

    static void feedText(IceFair fair, String text) {
        for (int[] five : numbersOf(text)) {
            fair.feed(five[0], five[1], five[2], five[3], five[4]);
        }
    }

    /** The text by twenty bytes, filled up with zeros. */
    static int[][] numbersOf(String text) {
        byte[] bytes = text.getBytes(StandardCharsets.ISO_8859_1);
        int[][] rows = new int[(bytes.length + 19) / 20][5];
        for (int i = 0; i < bytes.length; i++) {
            rows[i / 20][i % 20 / 4] |= (bytes[i] & 255) << (24 - 8 * (i % 4));
        }
        return rows;
    }

    static int customs(IceFair fair, String text) {
        feedText(fair, text);
        return fair.customs(text.length());
    }

    static void dueFault(String text, int kind, int place) {
        IceFair fair = new IceFair();
        due("customs of \"" + text + "\"", customs(fair, text), IceFair.NONE);
        due("fault(0) of \"" + text + "\"", fair.fault(0), kind);
        due("fault(1) of \"" + text + "\"", fair.fault(1), place);
    }

    static void dueLines(String text, int lines) {
        IceFair fair = new IceFair();
        due("customs of \"" + text + "\"", customs(fair, text), lines);
        due("fault(0) of \"" + text + "\"", fair.fault(0), 0);
        due("fault(1) of \"" + text + "\"", fair.fault(1), IceFair.NONE);
    }

    /** Ice all of one thickness under these customs. */
    static IceFair fairOn(int w, int h, int low, int high, String text) {
        IceFair fair = new IceFair();
        due("ice", fair.ice(w, h), true);
        due("sound", fair.sound(0, 0, w - 1, h - 1, low, high), true);
        due("fault of customs of \"" + text + "\"", customs(fair, text) >= 0, true);
        return fair;
    }

    static void end() {
        System.out.println(made + " answers looked at, " + wrong + " wrong");
        if (wrong != 0 || made == 0) {
            System.exit(1);
        }
    }
}
