/** Promise 10: an hour of cold or thaw. */
public final class HourTest {
    public static void main(String[] args) {
        coldsThatAreNone();
        thickness();
        fires();
        highOfNothingCracks();
        healing();
        healingAsUsual();
        healedCellsMayCrackAgain();
        breakingAtOnce();
        breakingOnAndOn();
        sunkFiresAreOut();
        Check.end();
    }

    private static void coldsThatAreNone() {
        IceFair fair = Check.fairOn(3, 3, 50, 50, "");
        int[] none = {-10, 10, Integer.MIN_VALUE, Integer.MAX_VALUE};
        for (int cold : none) {
            Check.due("hour(" + cold + ")", fair.hour(cold), IceFair.NONE);
        }
        Check.due("no HOUR", fair.count(4), 0);
        Check.dueText("LOW stays", Check.cell(fair, 0, 0, 0), "50");
        Check.due("hour(-9)", fair.hour(-9), 0);
        Check.due("hour(9)", fair.hour(9), 0);
        Check.due("two HOURS", fair.count(4), 2);
    }

    private static void thickness() {
        IceFair fair = Check.fairOn(3, 3, 4, 95, "");
        fair.hour(9);
        Check.dueText("LOW", Check.cell(fair, 0, 0, 0), "13");
        Check.dueText("HIGH, 99 at most", Check.cell(fair, 0, 0, 1), "99");
        fair.hour(-9);
        fair.hour(-9);
        Check.dueText("LOW, 0 at least", Check.cell(fair, 0, 0, 0), "0");
        Check.dueText("HIGH", Check.cell(fair, 0, 0, 1), "81");
        Check.due("LOW 0 is no CRACK without strain", fair.count(3), 0);
    }

    private static void fires() {
        IceFair fair = Check.fairOn(4, 3, 50, 60, "melt 5 2;");
        fair.booth(1, true, 0);
        fair.booth(1, true, 0);
        fair.booth(1, false, 0);
        fair.set(0, 0, 0);
        fair.set(1, 2, 0);
        fair.set(2, 3, 2);
        fair.hour(1);
        int[][] melted = {{5, 4, 5, 2}, {2, 0, 2, 0}, {0, 0, 0, 0}};
        for (int y = 0; y < 3; y++) {
            for (int x = 0; x < 4; x++) {
                Check.dueText("LOW", Check.cell(fair, x, y, 0), String.valueOf(51 - melted[y][x]));
                Check.dueText("HIGH", Check.cell(fair, x, y, 1), String.valueOf(61 - melted[y][x]));
            }
        }
        fair.clear(0);
        Check.customs(fair, "");
        fair.hour(0);
        Check.dueText("no fire any more", Check.cell(fair, 0, 0, 0), "46");
        Check.dueText("as usual, on it", Check.cell(fair, 2, 0, 0), "45");
        Check.dueText("as usual, beside", Check.cell(fair, 3, 0, 0), "49");
    }

    private static void highOfNothingCracks() {
        IceFair fair = Check.fairOn(3, 3, 0, 3, "");
        fair.sound(1, 1, 1, 1, 0, 2);
        Check.due("hour(-2)", fair.hour(-2), 0);
        Check.due("one CRACK", fair.count(3), 1);
        Check.dueText("it is there", Check.cell(fair, 1, 1, 2), "1");
        fair.hour(-1);
        Check.due("all CRACKS", fair.count(3), 9);
    }

    private static void healing() {
        IceFair fair = Check.fairOn(3, 3, 20, 20, "heal 10;");
        fair.sound(0, 0, 1, 0, 0, 0);
        fair.hour(0);
        Check.due("two CRACKS", fair.count(3), 2);
        fair.sound(0, 0, 0, 0, 9, 30);
        fair.sound(1, 0, 1, 0, 10, 30);
        fair.hour(5);
        Check.dueText("LOW 9 before the cold", Check.cell(fair, 0, 0, 2), "1");
        Check.dueText("LOW 10 before the cold", Check.cell(fair, 1, 0, 2), "0");
        Check.dueText("a CRACK grows thick too", Check.cell(fair, 0, 0, 0), "14");
        fair.hour(0);
        Check.due("none any more", fair.count(3), 0);
    }

    private static void healingAsUsual() {
        IceFair fair = Check.fairOn(3, 3, 0, 0, "");
        fair.hour(0);
        fair.sound(0, 0, 2, 2, 98, 99);
        fair.sound(0, 0, 0, 0, 99, 99);
        fair.hour(0);
        Check.dueText("LOW 99", Check.cell(fair, 0, 0, 2), "0");
        Check.due("LOW 98 is not healed", fair.count(3), 8);
    }

    private static void healedCellsMayCrackAgain() {
        IceFair fair = Check.fairOn(3, 3, 20, 20, "heal 5;near 0;");
        fair.sound(0, 0, 0, 0, 0, 0);
        fair.hour(0);
        fair.sound(0, 0, 0, 0, 5, 9);
        fair.hour(-9);
        Check.dueText("healed and cracked again", Check.cell(fair, 0, 0, 2), "1");
    }

    private static void breakingAtOnce() {
        // Both give at once, though each would hold if the other had sunk before.
        IceFair fair = Check.fairOn(3, 3, 10, 20, "");
        fair.booth(15, false, 0);
        fair.booth(15, false, 0);
        fair.set(0, 0, 0);
        fair.set(1, 1, 0);
        Check.dueText("STRAIN", Check.cell(fair, 0, 0, 3), "90");
        Check.due("both sink", fair.hour(-1), 2);
        Check.due("two are SUNK", fair.count(2), 2);
        Check.due("none is SET", fair.count(1), 0);
        Check.due("CRACKS", fair.count(3), 2);
        Check.dueText("no STRAIN is left", Check.cell(fair, 0, 0, 3), "0");
        Check.dueText("nobody is there", Check.cell(fair, 0, 0, 5), "-1");
    }

    private static void breakingOnAndOn() {
        // A booth that sinks takes its strain away, and so what it strained alone stays whole.
        IceFair fair = Check.fairOn(5, 3, 10, 20, "");
        fair.booth(24, false, 0);
        fair.booth(10, false, 0);
        fair.set(0, 1, 1);
        fair.set(1, 4, 1);
        Check.due("one sinks", fair.hour(-1), 1);
        Check.due("its own cell alone", fair.count(3), 1);
        Check.dueText("the other is SET", Check.look(fair, 1, 0), "1");
        // A cell beside that gives is a CRACK, and nobody sinks.
        fair.sound(3, 0, 3, 0, 3, 20);
        Check.due("nobody sinks", fair.hour(0), 0);
        Check.dueText("the cell across", Check.cell(fair, 3, 0, 2), "1");
        Check.due("CRACKS", fair.count(3), 2);
        Check.due("it has to MOVE? near is 1", fair.count(8), 0);
        Check.due("hour again", fair.hour(0), 0);
        Check.due("CRACKS as before", fair.count(3), 2);
    }

    private static void sunkFiresAreOut() {
        IceFair fair = Check.fairOn(3, 3, 50, 50, "melt 9 9;");
        fair.booth(1, true, 0);
        fair.set(0, 1, 1);
        fair.sound(1, 1, 1, 1, 1, 9);
        Check.due("it melts itself down", fair.hour(0), 1);
        Check.dueText("beside, melted", Check.cell(fair, 1, 0, 0), "41");
        fair.hour(0);
        Check.dueText("beside, no more", Check.cell(fair, 1, 0, 0), "41");
    }
}
