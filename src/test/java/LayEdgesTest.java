/** The boundary cases of a laying: promise 11 and its words in 'Terms'; exact 20000 LOOKS are in LayTest too. */
public final class LayEdgesTest {
    private static final int NONE = IceFair.NONE;
    private static final int SPENT = -2;

    public static void main(String[] args) {
        nothingWaits();
        looksOfTheLatest();
        noCellToTry();
        lowOfNothingAndOfOne();
        oneCellForOneAndForTwo();
        asManyCellsAsBooths();
        fewerCellsThanBooths();
        theLastCellOfAll();
        tenAtOnce();
        rowByRowYFirst();
        theFirstRowOfAll();
        byNumbers();
        cracksAsNearAsAllowed();
        firesAsFarApartAsTheyMustBe();
        iceThatBearsAsMuch();
        noRowLeavesAll();
        spentLeavesAll();
        theLookBehindTwentyThousand();
        feesOfAllOrNone();
        Check.end();
    }

    private static void addBooths(IceFair fair, int... weights) {
        for (int weight : weights) {
            fair.booth(weight, false, 0);
        }
    }

    /** Makes these cells thick CRACKS that bear as the others do: nobody may be laid there, all may beside. */
    private static void close(IceFair fair, int thick, int[][] spans) {
        for (int[] span : spans) {
            Check.due("sound", fair.sound(span[0], span[1], span[2], span[3], 0, 0), true);
        }
        Check.due("hour(0)", fair.hour(0), 0);
        for (int[] span : spans) {
            Check.due("sound", fair.sound(span[0], span[1], span[2], span[3], thick, thick), true);
        }
    }

    private static void dueLay(String of, IceFair fair, int due, int looks) {
        Check.due("lay() of " + of, fair.lay(), due);
        Check.due("LOOKS of " + of, fair.count(6), looks);
    }

    private static void dueAt(IceFair fair, int booth, int x, int y) {
        Check.dueText("x of " + booth, Check.look(fair, booth, 1), String.valueOf(x));
        Check.dueText("y of " + booth, Check.look(fair, booth, 2), String.valueOf(y));
        Check.dueText("who is at " + x + ", " + y, Check.cell(fair, x, y, 5), String.valueOf(booth));
    }

    /** "how many were SET": 0 if none WAITS. */
    private static void nothingWaits() {
        IceFair fair = Check.fairOn(3, 3, 50, 50, "");
        dueLay("no booths", fair, 0, 0);
        addBooths(fair, 1);
        fair.set(0, 0, 0);
        dueLay("one that is SET", fair, 0, 0);
        fair.sound(0, 0, 0, 0, 0, 50);
        dueLay("one that is SET where the ICE gives", fair, 0, 0);
        fair.hour(0);
        dueLay("one that is SUNK", fair, 0, 0);
        Check.due("FEES", fair.count(5), 1);
    }

    /** "LOOKS of the latest lay() (0)". */
    private static void looksOfTheLatest() {
        IceFair fair = Check.fairOn(3, 3, 50, 50, "");
        Check.due("LOOKS before any", fair.count(6), 0);
        addBooths(fair, 1, 1, 1);
        dueLay("three", fair, 3, 3);
        fair.clear(1);
        Check.due("LOOKS are those of the latest", fair.count(6), 3);
        fair.set(1, 2, 2);
        fair.hour(0);
        Check.due("LOOKS are those of the latest", fair.count(6), 3);
        dueLay("none", fair, 0, 0);
        fair.clear(0);
        dueLay("one", fair, 1, 1);
    }

    /** "(one that is free, LOW above 0, no CRACK)". */
    private static void noCellToTry() {
        IceFair thin = Check.fairOn(3, 3, 0, 99, "");
        addBooths(thin, 1);
        dueLay("LOW 0 all over", thin, NONE, 0);
        IceFair cracked = Check.fairOn(3, 3, 50, 50, "near 0;");
        addBooths(cracked, 1);
        close(cracked, 50, new int[][] {{0, 0, 2, 2}});
        dueLay("CRACKS all over", cracked, NONE, 0);
        IceFair taken = Check.fairOn(3, 3, 99, 99, "");
        for (int i = 0; i < 9; i++) {
            addBooths(taken, 1);
            Check.due("set", taken.set(i, i % 3, i / 3), 1);
        }
        addBooths(taken, 1);
        dueLay("all taken", taken, NONE, 0);
        Check.due("SET", taken.count(1), 9);
    }

    private static void lowOfNothingAndOfOne() {
        IceFair fair = Check.fairOn(3, 3, 1, 1, "bear 99;");
        addBooths(fair, 1);
        dueLay("LOW 1 that bears nothing", fair, NONE, 9);
        fair.sound(2, 2, 2, 2, 0, 1);
        dueLay("one of LOW 0", fair, NONE, 8);
        fair.sound(0, 0, 2, 2, 1, 1);
        Check.due("customs", Check.customs(fair, "bear 400;"), 1);
        dueLay("LOW 1 that bears 4", fair, 1, 1);
    }

    private static void oneCellForOneAndForTwo() {
        int[][] spans = {{0, 0, 2, 1}, {0, 2, 1, 2}};
        IceFair fair = Check.fairOn(3, 3, 50, 50, "near 0;");
        close(fair, 50, spans);
        addBooths(fair, 3);
        dueLay("one for one cell", fair, 1, 1);
        dueAt(fair, 0, 2, 2);
        fair.clear(0);
        addBooths(fair, 4);
        dueLay("two for one cell", fair, NONE, 1);
        Check.due("none is SET", fair.count(1), 0);
        Check.due("FEES", fair.count(5), 3);
    }

    private static void asManyCellsAsBooths() {
        IceFair fair = Check.fairOn(3, 3, 99, 99, "");
        addBooths(fair, 1, 2, 3, 4, 5, 6, 7, 8, 9);
        dueLay("nine for nine cells", fair, 9, 9);
        for (int i = 0; i < 9; i++) {
            dueAt(fair, i, i % 3, i / 3);
        }
        Check.due("FEES", fair.count(5), 45);
    }

    private static void fewerCellsThanBooths() {
        IceFair four = Check.fairOn(4, 3, 99, 99, "near 0;");
        close(four, 99, new int[][] {{0, 1, 3, 2}});
        addBooths(four, 1, 1, 1, 1, 1);
        dueLay("five for four cells", four, NONE, 4 + 4 * 3 + 4 * 3 * 2 + 4 * 3 * 2);
        Check.due("none is SET", four.count(1), 0);
        IceFair nine = Check.fairOn(3, 3, 99, 99, "");
        addBooths(nine, 1, 1, 1, 1, 1, 1, 1, 1, 1, 1);
        dueLay("ten for nine cells", nine, SPENT, 20001);
        Check.due("none is SET", nine.count(1), 0);
    }

    private static void theLastCellOfAll() {
        int[][] sizes = {{3, 3}, {10, 3}, {3, 10}, {10, 10}};
        for (int[] size : sizes) {
            IceFair fair = Check.fairOn(size[0], size[1], 14, 14, "");
            addBooths(fair, 50);
            dueLay("a cell for none", fair, NONE, size[0] * size[1]);
            fair.sound(size[0] - 1, size[1] - 1, size[0] - 1, size[1] - 1, 15, 15);
            dueLay("the last cell", fair, 1, size[0] * size[1]);
            dueAt(fair, 0, size[0] - 1, size[1] - 1);
        }
    }

    private static void tenAtOnce() {
        IceFair fair = Check.fairOn(10, 10, 99, 99, "fee 2 0;");
        addBooths(fair, 1, 1, 1, 1, 1, 1, 1, 1, 1, 1);
        dueLay("ten", fair, 10, 10);
        for (int i = 0; i < 10; i++) {
            dueAt(fair, i, i, 0);
        }
        Check.due("FEES", fair.count(5), 20);
    }

    /** "each at a cell (row by row, y first, in each x rising)". */
    private static void rowByRowYFirst() {
        int[][] sizes = {{3, 4}, {4, 3}, {3, 10}, {7, 3}};
        for (int[] size : sizes) {
            IceFair fair = Check.fairOn(size[0], size[1], 99, 99, "");
            addBooths(fair, 1, 1, 1, 1, 1, 1, 1, 1);
            dueLay("eight", fair, 8, 8);
            for (int i = 0; i < 8; i++) {
                dueAt(fair, i, i % size[0], i / size[0]);
            }
        }
    }

    /** "the first such row of cells": the first BOOTH's cell is the first that leaves room for the others. */
    private static void theFirstRowOfAll() {
        // 50 may be at (0, 0) alone, and then 30 at (4, 0) alone; 1 at (1, 0) to (2, 1) is more than the cells
        // by 50 bear, at (3, 0) it is more than (4, 0) bears, and at (3, 1) it is just as much.
        IceFair fair = Check.fairOn(5, 3, 8, 8, "");
        fair.sound(0, 0, 0, 0, 15, 15);
        fair.sound(4, 0, 4, 0, 11, 11);
        fair.sound(1, 0, 1, 1, 10, 10);
        fair.sound(0, 1, 0, 1, 10, 10);
        addBooths(fair, 1, 30, 50);
        Check.due("lay()", fair.lay(), 3);
        dueAt(fair, 2, 0, 0);
        dueAt(fair, 1, 4, 0);
        dueAt(fair, 0, 3, 1);
    }

    /** "all that WAIT, by numbers". */
    private static void byNumbers() {
        IceFair fair = Check.fairOn(5, 3, 50, 50, "near 0;");
        addBooths(fair, 1, 1, 1, 1, 1);
        fair.set(3, 0, 0);
        fair.set(1, 2, 0);
        fair.set(4, 4, 2);
        fair.sound(4, 2, 4, 2, 0, 0);
        Check.due("4 sinks", fair.hour(0), 1);
        fair.sound(4, 2, 4, 2, 50, 50);
        dueLay("0 and 2", fair, 2, 2);
        dueAt(fair, 0, 1, 0);
        dueAt(fair, 1, 2, 0);
        dueAt(fair, 2, 3, 0);
        dueAt(fair, 3, 0, 0);
        fair.clear(3);
        fair.clear(0);
        dueLay("0 and 3, the lesser first", fair, 2, 2);
        dueAt(fair, 0, 0, 0);
        dueAt(fair, 3, 1, 0);
        Check.dueText("4 is SUNK", Check.look(fair, 4, 0), "2");
    }

    private static void cracksAsNearAsAllowed() {
        int[] looks = {1, 1, 2, 3, 4};
        for (int near = 0; near <= 4; near++) {
            IceFair fair = Check.fairOn(5, 5, 90, 90, "near " + near + ";");
            Check.crack(fair, 0, 0, 90, 90);
            addBooths(fair, 1);
            dueLay("near " + near, fair, 1, looks[near]);
            dueAt(fair, 0, Math.max(1, near), 0);
        }
        IceFair small = Check.fairOn(3, 3, 90, 90, "near 3;");
        Check.crack(small, 0, 0, 90, 90);
        addBooths(small, 1);
        dueLay("near 3 of 3 by 3", small, NONE, 8);
    }

    private static void firesAsFarApartAsTheyMustBe() {
        for (int apart = 0; apart <= 9; apart++) {
            IceFair fair = Check.fairOn(10, 3, 90, 90, "apart " + apart + ";");
            fair.booth(1, true, 0);
            fair.booth(1, true, 0);
            fair.booth(1, false, 0);
            int x = Math.max(1, apart);
            dueLay("apart " + apart, fair, 3, 1 + x + 1);
            dueAt(fair, 1, x, 0);
            dueAt(fair, 2, x == 1 ? 2 : 1, 0);
        }
        IceFair small = Check.fairOn(3, 3, 90, 90, "apart 3;");
        small.booth(1, true, 0);
        small.booth(1, true, 0);
        dueLay("apart 3 of 3 by 3", small, NONE, 9 + 9 * 8);
    }

    private static void iceThatBearsAsMuch() {
        // Each cell bears 100: 4 * 25, or 50 + 50 between two; 4 * 16 + 2 * 18, and 4 * 17 + 2 * 16 beside it.
        IceFair fair = Check.fairOn(3, 3, 10, 10, "");
        addBooths(fair, 25, 25);
        dueLay("25 and 25", fair, 2, 3);
        dueAt(fair, 1, 2, 0);
        IceFair more = Check.fairOn(3, 3, 10, 10, "");
        addBooths(more, 26);
        dueLay("26", more, NONE, 9);
        IceFair beside = Check.fairOn(3, 3, 10, 10, "");
        addBooths(beside, 16, 18);
        dueLay("16 and 18 beside: 100 and 104", beside, 2, 3);
        dueAt(beside, 1, 2, 0);
        IceFair both = Check.fairOn(3, 3, 10, 10, "");
        addBooths(both, 16, 17);
        dueLay("16 and 17 beside: 98 and 100", both, 2, 2);
        dueAt(both, 1, 1, 0);
    }

    /** "All are SET then, or none.", "NONE: there is no such row". */
    private static void noRowLeavesAll() {
        IceFair fair = Check.fairOn(4, 3, 20, 20, "near 0;apart 2;stair 0 0 1;fee 3 4;");
        fair.booth(20, true, 5);
        fair.booth(10, true, 5);
        fair.booth(5, false, 5);
        fair.set(0, 1, 1);
        Check.crack(fair, 3, 2, 20, 20);
        fair.booth(50, false, 5);
        fair.sound(0, 0, 3, 2, 13, 20);
        String all = Check.allOf(fair, 4, 3);
        Check.due("lay()", fair.lay(), NONE);
        Check.due("some LOOKS", fair.count(6) > 0, true);
        Check.dueText("all is as it was", Check.allOf(fair, 4, 3), all);
        Check.due("lay() again", fair.lay(), NONE);
        Check.dueText("all is as it was", Check.allOf(fair, 4, 3), all);
    }

    /** "with more than 20000: SPENT", "-2: SPENT". */
    private static void spentLeavesAll() {
        IceFair fair = Check.fairOn(5, 5, 10, 10, "stair 0 0 1;");
        addBooths(fair, 1, 1, 1, 1, 1, 1, 1, 1, 50);
        fair.set(0, 4, 4);
        String all = Check.allOf(fair, 5, 5);
        dueLay("one that may be nowhere", fair, SPENT, 20001);
        Check.dueText("all is as it was", Check.allOf(fair, 5, 5), all);
        Check.due("FEES", fair.count(5), 1);
        Check.due("SET", fair.count(1), 1);
    }

    private static void theLookBehindTwentyThousand() {
        // Two for 52 cells and one for none: LOOK 20000 is the last of a row of 50, and one more comes behind it.
        IceFair spent = Check.fairOn(10, 10, 10, 10, "near 0;");
        close(spent, 10, new int[][] {{2, 5, 9, 5}, {0, 6, 9, 9}});
        addBooths(spent, 1, 1, 50);
        dueLay("52 cells", spent, SPENT, 20001);
        // 27 * (1 + 26 * 26) LOOKS are all that there are for 27 cells.
        IceFair none = Check.fairOn(10, 10, 10, 10, "near 0;");
        close(none, 10, new int[][] {{7, 2, 9, 2}, {0, 3, 9, 9}});
        addBooths(none, 1, 1, 50);
        dueLay("27 cells", none, NONE, 27 * (1 + 26 * 26));
        // A 28th cell makes more than 20000 of them.
        IceFair more = Check.fairOn(10, 10, 10, 10, "near 0;");
        close(more, 10, new int[][] {{8, 2, 9, 2}, {0, 3, 9, 9}});
        addBooths(more, 1, 1, 50);
        dueLay("28 cells", more, SPENT, 20001);
    }

    /** "FEE of a BOOTH when it is SET (by hand or laid)". */
    private static void feesOfAllOrNone() {
        IceFair fair = Check.fairOn(3, 3, 20, 20, "fee 99 99;");
        fair.booth(1, true, 0);
        fair.booth(2, false, 0);
        fair.booth(50, true, 0);
        Check.due("lay()", fair.lay(), 3);
        Check.due("FEES", fair.count(5), 99 * 53 + 2 * 99);
        Check.due("lay() of none", fair.lay(), 0);
        Check.due("FEES", fair.count(5), 99 * 53 + 2 * 99);
        fair.clear(2);
        fair.sound(0, 0, 2, 2, 10, 10);
        Check.due("lay() of one that may be nowhere", fair.lay(), NONE);
        Check.due("FEES", fair.count(5), 99 * 53 + 2 * 99);
    }
}
