import java.nio.charset.StandardCharsets;
import java.util.NoSuchElementException;

/** What the tests share: comparing, feeding a text, and the end with its exit code. */
final class Check {
    static final String INDEX = "IndexOutOfBoundsException";
    static final String ELEMENT = "NoSuchElementException";

    private static int wrong = 0;
    private static int made = 0;

    private Check() {
    }

    static void due(String call, long got, long want) {
        made++;
        if (got != want) {
            wrong++;
            System.out.println(call + " answered " + got + ", due is " + want);
        }
    }

    static void due(String call, boolean got, boolean want) {
        due(call, got ? 1 : 0, want ? 1 : 0);
    }

    static void dueText(String call, String got, String want) {
        made++;
        if (!got.equals(want)) {
            wrong++;
            System.out.println(call + " answered " + got + ", due is " + want);
        }
    }

    /** What cell answers, or the name of what it throws. */
    static String cell(IceFair fair, int x, int y, int what) {
        try {
            return String.valueOf(fair.cell(x, y, what));
        } catch (IndexOutOfBoundsException e) {
            return INDEX;
        } catch (NoSuchElementException e) {
            return ELEMENT;
        }
    }

    /** What look answers, or the name of what it throws. */
    static String look(IceFair fair, int booth, int what) {
        try {
            return String.valueOf(fair.look(booth, what));
        } catch (IndexOutOfBoundsException e) {
            return INDEX;
        } catch (NoSuchElementException e) {
            return ELEMENT;
        }
    }

    static void feedText(IceFair fair, String text) {
        for (int[] five : numbersOf(text)) {
            fair.feed(five[0], five[1], five[2], five[3], five[4]);
        }
    }

    /** The text by twenty bytes, filled up with zeros. */
    static int[][] numbersOf(String text) {
        byte[] bytes = text.getBytes(StandardCharsets.ISO_8859_1);
        int[][] rows = new int[(bytes.length + 19) / 20][5];
        for (int i = 0; i < bytes.length; i++) {
            rows[i / 20][i % 20 / 4] |= (bytes[i] & 255) << (24 - 8 * (i % 4));
        }
        return rows;
    }

    static int customs(IceFair fair, String text) {
        feedText(fair, text);
        return fair.customs(text.length());
    }

    static void dueFault(String text, int kind, int place) {
        IceFair fair = new IceFair();
        due("customs of \"" + text + "\"", customs(fair, text), IceFair.NONE);
        due("fault(0) of \"" + text + "\"", fair.fault(0), kind);
        due("fault(1) of \"" + text + "\"", fair.fault(1), place);
    }

    static void dueLines(String text, int lines) {
        IceFair fair = new IceFair();
        due("customs of \"" + text + "\"", customs(fair, text), lines);
        due("fault(0) of \"" + text + "\"", fair.fault(0), 0);
        due("fault(1) of \"" + text + "\"", fair.fault(1), IceFair.NONE);
    }

    /** Ice all of one thickness under these customs. */
    static IceFair fairOn(int w, int h, int low, int high, String text) {
        IceFair fair = new IceFair();
        due("ice", fair.ice(w, h), true);
        due("sound", fair.sound(0, 0, w - 1, h - 1, low, high), true);
        due("fault of customs of \"" + text + "\"", customs(fair, text) >= 0, true);
        return fair;
    }

    /** What can be asked of a fair on ice of w by h, but for LOOKS: what a refused call must leave as it is. */
    static String allOf(IceFair fair, int w, int h) {
        StringBuilder all = new StringBuilder();
        for (int at = 0; at < w * h; at++) {
            for (int what = 0; what < 6; what++) {
                all.append(cell(fair, at % w, at / w, what)).append(' ');
            }
        }
        all.append(cell(fair, w, 0, 0)).append(' ').append(cell(fair, 0, h, 0)).append(" booths ");
        for (int number = 0; number <= fair.count(0); number++) {
            for (int what = 0; what < 5; what++) {
                all.append(look(fair, number, what)).append(' ');
            }
        }
        all.append("counts ");
        for (int what : new int[] {0, 1, 2, 3, 4, 5, 7, 8}) {
            all.append(fair.count(what)).append(' ');
        }
        return all.append("fault ").append(fair.fault(0)).append(' ').append(fair.fault(1))
            .append(" soon ").append(fair.soon()).append(" proof ").append(fair.proof()).toString();
    }

    /** Makes the one cell a CRACK that is as thick as told. */
    static void crack(IceFair fair, int x, int y, int low, int high) {
        due("sound", fair.sound(x, y, x, y, 0, 0), true);
        due("hour(0) sinks none", fair.hour(0), 0);
        due("sound", fair.sound(x, y, x, y, low, high), true);
        dueText("a CRACK at " + x + ", " + y, cell(fair, x, y, 2), "1");
    }

    static void end() {
        System.out.println(made + " answers looked at, " + wrong + " wrong");
        if (wrong != 0 || made == 0) {
            System.exit(1);
        }
    }
}
