/** Promise 11: laying all booths that wait. */
public final class LayTest {
    public static void main(String[] args) {
        rowByRow();
        takesBack();
        noRow();
        looksLeaveOutWhatIsNotOpen();
        spentAtMoreThanTwentyThousand();
        justTwentyThousandLooks();
        laysWhatWaitsOnly();
        nothingIsLaidWhileACellGives();
        Check.end();
    }

    private static void rowByRow() {
        IceFair fair = Check.fairOn(3, 4, 99, 99, "fee 2 5;");
        for (int i = 0; i < 5; i++) {
            fair.booth(1 + i, i == 1, 0);
        }
        Check.due("lay()", fair.lay(), 5);
        for (int i = 0; i < 5; i++) {
            Check.dueText("x of " + i, Check.look(fair, i, 1), String.valueOf(i % 3));
            Check.dueText("y of " + i, Check.look(fair, i, 2), String.valueOf(i / 3));
        }
        Check.due("LOOKS", fair.count(6), 5);
        Check.due("fees", fair.count(5), 35);
        Check.due("SET", fair.count(1), 5);
    }

    private static void takesBack() {
        // Only the thick cell bears booth 1, so booth 0 has to leave it though it comes first.
        IceFair fair = Check.fairOn(3, 3, 10, 10, "");
        fair.sound(0, 0, 1, 1, 14, 14);
        fair.sound(0, 0, 0, 0, 20, 20);
        fair.booth(10, false, 0);
        fair.booth(50, false, 0);
        Check.due("lay()", fair.lay(), 2);
        Check.dueText("booth 0", Check.look(fair, 0, 1), "1");
        Check.dueText("booth 0", Check.look(fair, 0, 2), "0");
        Check.dueText("booth 1", Check.look(fair, 1, 1), "0");
        Check.dueText("booth 1", Check.look(fair, 1, 2), "0");
        // Booth 0 at (0, 0) and 8 for booth 1, then booth 0 at (1, 0) and booth 1 at (0, 0).
        Check.due("LOOKS", fair.count(6), 11);
        Check.due("fees", fair.count(5), 60);
    }

    private static void noRow() {
        IceFair fair = Check.fairOn(3, 3, 10, 10, "");
        fair.booth(10, false, 0);
        fair.booth(50, false, 0);
        Check.due("lay()", fair.lay(), IceFair.NONE);
        Check.due("none is SET", fair.count(1), 0);
        Check.due("no fee", fair.count(5), 0);
        Check.due("LOOKS", fair.count(6), 9 + 9 * 8);
        Check.dueText("no STRAIN is left", Check.cell(fair, 0, 0, 3), "0");
        Check.dueText("nobody is there", Check.cell(fair, 0, 0, 5), "-1");
        Check.dueText("booth 0 WAITS", Check.look(fair, 0, 0), "0");
        Check.dueText("booth 0 has no x", Check.look(fair, 0, 1), "-1");
        Check.due("booth 0 may be SET by hand", fair.set(0, 0, 0), 10);
    }

    private static void looksLeaveOutWhatIsNotOpen() {
        IceFair fair = Check.fairOn(3, 3, 50, 50, "near 2;");
        fair.booth(1, false, 0);
        fair.booth(1, false, 0);
        fair.set(0, 2, 2);
        fair.sound(0, 0, 0, 0, 0, 0);
        fair.hour(0);
        fair.sound(1, 0, 1, 0, 0, 9);
        // (2, 0), (0, 1), (1, 1), (2, 1) and so on are tried, the crack and LOW 0 are not.
        Check.due("lay()", fair.lay(), 1);
        Check.dueText("x", Check.look(fair, 1, 1), "0");
        Check.dueText("y", Check.look(fair, 1, 2), "2");
        Check.due("LOOKS", fair.count(6), 5);
    }

    private static void spentAtMoreThanTwentyThousand() {
        // Nine that may stand anywhere and a tenth that may stand nowhere.
        IceFair fair = Check.fairOn(10, 10, 10, 10, "");
        for (int i = 0; i < 9; i++) {
            fair.booth(1, false, 0);
        }
        fair.booth(50, false, 0);
        Check.due("lay()", fair.lay(), -2);
        Check.due("LOOKS", fair.count(6), 20001);
        Check.due("none is SET", fair.count(1), 0);
        Check.due("no fee", fair.count(5), 0);
        for (int i = 0; i < 10; i++) {
            Check.dueText("it WAITS", Check.look(fair, i, 0), "0");
        }
        for (int i = 0; i < 100; i++) {
            Check.dueText("no STRAIN", Check.cell(fair, i % 10, i / 10, 3), "0");
            Check.dueText("nobody", Check.cell(fair, i % 10, i / 10, 5), "-1");
        }
    }

    private static void justTwentyThousandLooks() {
        dueLay(5, 3, new int[][] {{2, 0}}, new int[] {2, 15, 31, 16, 16, 35, 27}, 7, 20000);
        dueLay(4, 3, new int[][] {}, new int[] {35, 24, 28, 31, 3, 19, 35}, IceFair.NONE, 20000);
        // The look behind it would find the row, or that there is none.
        dueLay(6, 5, new int[][] {{5, 1}, {1, 3}}, new int[] {32, 27, 35, 35, 23, 25}, -2, 20001);
        dueLay(3, 3, new int[][] {}, new int[] {3, 13, 15, 27, 30, 30, 25}, -2, 20001);
    }

    private static void dueLay(int w, int h, int[][] thin, int[] weights, int due, int looks) {
        IceFair fair = Check.fairOn(w, h, 12, 12, "");
        for (int[] at : thin) {
            fair.sound(at[0], at[1], at[0], at[1], 0, 40);
        }
        for (int weight : weights) {
            fair.booth(weight, false, 0);
        }
        Check.due("lay() of " + looks + " LOOKS", fair.lay(), due);
        Check.due("LOOKS", fair.count(6), looks);
        Check.due("SET", fair.count(1), Math.max(0, due));
    }

    private static void laysWhatWaitsOnly() {
        IceFair fair = Check.fairOn(4, 3, 50, 50, "near 0;");
        for (int i = 0; i < 4; i++) {
            fair.booth(1, false, 0);
        }
        fair.set(1, 0, 0);
        fair.set(2, 3, 2);
        fair.sound(3, 2, 3, 2, 0, 0);
        Check.due("2 sinks", fair.hour(0), 1);
        fair.sound(3, 2, 3, 2, 50, 50);
        Check.due("lay()", fair.lay(), 2);
        Check.dueText("0 at 1, 0", Check.cell(fair, 1, 0, 5), "0");
        Check.dueText("3 at 2, 0", Check.cell(fair, 2, 0, 5), "3");
        Check.dueText("1 stays", Check.cell(fair, 0, 0, 5), "1");
        Check.dueText("2 is SUNK", Check.look(fair, 2, 0), "2");
        Check.due("lay() of none", fair.lay(), 0);
    }

    private static void nothingIsLaidWhileACellGives() {
        IceFair fair = Check.fairOn(3, 3, 50, 50, "");
        fair.booth(10, false, 0);
        fair.booth(1, false, 0);
        fair.set(0, 0, 0);
        fair.sound(0, 0, 0, 0, 1, 50);
        Check.due("lay()", fair.lay(), IceFair.NONE);
        Check.due("LOOKS", fair.count(6), 8);
        fair.clear(0);
        Check.due("lay()", fair.lay(), 2);
    }
}
