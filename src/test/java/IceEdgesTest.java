/** The boundary cases of the ice and its cells: promises 1, 5, 6, 14 and their words in 'Terms'. */
public final class IceEdgesTest {
    private static final int NONE = IceFair.NONE;
    private static final int LEAST = Integer.MIN_VALUE;
    private static final int MOST = Integer.MAX_VALUE;

    public static void main(String[] args) {
        aNewObjectIsEmpty();
        sidesOfThreeToTen();
        iceThatIsNoneLeavesAll();
        smallerIceAndLargerAgain();
        newIceForgetsHoursFeesAndTheSunk();
        newIceLeavesTextTapeAndLooks();
        boothsOfFormerIceAreGone();
        soundAtTheEdgesOfTheIce();
        soundFromOneCellToAll();
        soundOfSpans();
        soundThatIsNoneLeavesAll();
        soundAloneMakesNoCrack();
        soundUnderABooth();
        cellsThatAreThereAndThoseThatAreNot();
        whatsThatAreThereAndThoseThatAreNot();
        strainStaysOnTheIce();
        strainOfManyBooths();
        bearingIsCut();
        Check.end();
    }

    /** "ICE of 5 by 5, no CUSTOMS, no BOOTHS; an empty TAPE." */
    private static void aNewObjectIsEmpty() {
        IceFair fair = new IceFair();
        for (int at = 0; at < 25; at++) {
            for (int what = 0; what < 6; what++) {
                Check.dueText("cell", Check.cell(fair, at % 5, at / 5, what), what == 5 ? "-1" : "0");
            }
        }
        Check.dueText("cell(5, 4, 0)", Check.cell(fair, 5, 4, 0), Check.INDEX);
        Check.dueText("cell(4, 5, 0)", Check.cell(fair, 4, 5, 0), Check.INDEX);
        Check.dueText("look(0, 0)", Check.look(fair, 0, 0), Check.INDEX);
        for (int what = 0; what <= 8; what++) {
            Check.due("count(" + what + ")", fair.count(what), 0);
        }
        Check.due("fault(0)", fair.fault(0), 0);
        Check.due("fault(1)", fair.fault(1), NONE);
        Check.due("customs(1)", fair.customs(1), -2);
        Check.due("a first feed", fair.feed(0, 0, 0, 0, 0), 20);
        Check.due("a first booth", fair.booth(1, false, 0), 0);
        Check.due("it may not be SET on ICE of 0", fair.set(0, 0, 0), NONE);
        Check.due("nor laid", fair.lay(), NONE);
        Check.due("no cell was tried", fair.count(6), 0);
        Check.due("sound", fair.sound(0, 0, 4, 4, 10, 12), true);
        Check.dueText("BEARS as usual", Check.cell(fair, 0, 0, 4), "100");
        Check.due("the usual FEE", fair.set(0, 0, 0), 1);
        Check.due("no CUSTOMS, no stairs", fair.count(7), 0);
    }

    /** "ICE of W by H cells (3 .. 10 each", "false for others." */
    private static void sidesOfThreeToTen() {
        int[] sides = {LEAST, -10, -3, -1, 0, 1, 2, 3, 4, 5, 6, 7, 8, 9, 10, 11, 12, 13, 65539, MOST};
        for (int w : sides) {
            for (int h : sides) {
                boolean there = w >= 3 && w <= 10 && h >= 3 && h <= 10;
                IceFair fair = new IceFair();
                Check.due("ice(" + w + ", " + h + ")", fair.ice(w, h), there);
                dueSides(fair, there ? w : 5, there ? h : 5);
            }
        }
    }

    private static void dueSides(IceFair fair, int w, int h) {
        Check.dueText("the first cell", Check.cell(fair, 0, 0, 0), "0");
        Check.dueText("the last cell", Check.cell(fair, w - 1, h - 1, 0), "0");
        Check.dueText("beyond x", Check.cell(fair, w, h - 1, 0), Check.INDEX);
        Check.dueText("beyond y", Check.cell(fair, w - 1, h, 0), Check.INDEX);
        Check.due("sound all", fair.sound(0, 0, w - 1, h - 1, 1, 1), true);
        Check.due("sound beyond x", fair.sound(0, 0, w, h - 1, 1, 1), false);
        Check.due("sound beyond y", fair.sound(0, 0, w - 1, h, 1, 1), false);
    }

    private static void iceThatIsNoneLeavesAll() {
        IceFair fair = Check.fairOn(4, 4, 40, 50, "near 0;stair 0 0 1;");
        fair.booth(2, true, 3);
        fair.booth(2, true, 3);
        fair.booth(2, false, 3);
        fair.set(0, 1, 1);
        fair.set(1, 3, 3);
        fair.sound(3, 3, 3, 3, 0, 0);
        Check.due("hour(0)", fair.hour(0), 1);
        String all = Check.allOf(fair, 4, 4);
        int[][] none = {{2, 4}, {4, 2}, {11, 4}, {4, 11}, {0, 0}, {-4, -4}, {LEAST, 4}, {4, MOST}};
        for (int[] sides : none) {
            Check.due("ice of none", fair.ice(sides[0], sides[1]), false);
        }
        Check.dueText("all is as it was", Check.allOf(fair, 4, 4), all);
    }

    /** "New ICE, all 0 thick, no CRACKS, no BOOTHS": cells that the smaller ICE had not are new too. */
    private static void smallerIceAndLargerAgain() {
        IceFair fair = Check.fairOn(10, 10, 90, 95, "near 0;");
        for (int i = 0; i < 10; i++) {
            fair.booth(2, true, 5);
            fair.set(i, 9 - i, 9);
        }
        Check.crack(fair, 8, 0, 90, 90);
        Check.due("ice(3, 3)", fair.ice(3, 3), true);
        Check.due("no BOOTHS", fair.count(0), 0);
        Check.due("no CRACKS", fair.count(3), 0);
        Check.due("ice(10, 10)", fair.ice(10, 10), true);
        for (int at = 0; at < 100; at++) {
            for (int what = 0; what < 4; what++) {
                Check.dueText("cell " + what + " at " + at, Check.cell(fair, at % 10, at / 10, what), "0");
            }
        }
        Check.dueText("nobody", Check.cell(fair, 9, 9, 5), "-1");
        Check.due("no CRACKS", fair.count(3), 0);
        Check.due("nobody is SET", fair.count(1), 0);
        Check.due("ten BOOTHS again: the first", fair.booth(1, false, 0), 0);
    }

    /** "no BOOTHS, no FEES paid", "HOURS on this ICE". */
    private static void newIceForgetsHoursFeesAndTheSunk() {
        IceFair fair = Check.fairOn(3, 3, 50, 50, "fee 9 9;near 2;");
        fair.booth(1, true, 9);
        fair.booth(1, false, 9);
        fair.set(0, 0, 0);
        fair.set(1, 2, 2);
        fair.sound(0, 0, 0, 0, 0, 0);
        Check.due("hour(0)", fair.hour(0), 1);
        fair.sound(1, 1, 1, 1, 0, 0);
        Check.due("hour(0)", fair.hour(0), 0);
        int[] before = {2, 1, 1, 2, 2, 27, 0, 0, 1};
        for (int what = 0; what < before.length; what++) {
            Check.due("count(" + what + ")", fair.count(what), before[what]);
        }
        Check.due("ice(3, 3)", fair.ice(3, 3), true);
        for (int what = 0; what < before.length; what++) {
            Check.due("count(" + what + ") on new ICE", fair.count(what), 0);
        }
        Check.dueText("look(0, 0)", Check.look(fair, 0, 0), Check.INDEX);
        Check.due("soon()", fair.soon(), 0);
        Check.due("lay()", fair.lay(), 0);
        for (int i = 0; i < 10; i++) {
            Check.due("booth " + i, fair.booth(1, false, 0), i);
            Check.dueText("it WAITS", Check.look(fair, i, 0), "0");
        }
        Check.due("an eleventh", fair.booth(1, false, 0), NONE);
    }

    private static void newIceLeavesTextTapeAndLooks() {
        IceFair fair = Check.fairOn(3, 3, 10, 10, "bear 200;stair 1 1 1;");
        fair.booth(1, false, 0);
        fair.booth(1, false, 0);
        Check.due("lay()", fair.lay(), 2);
        Check.due("customs of a FAULT", Check.customs(fair, "near 5;"), NONE);
        Check.feedText(fair, "heal 7;");
        Check.due("ice(3, 3)", fair.ice(3, 3), true);
        Check.due("LOOKS of the latest lay()", fair.count(6), 2);
        Check.due("stairs", fair.count(7), 1);
        Check.due("fault(0)", fair.fault(0), 2);
        Check.due("fault(1)", fair.fault(1), 5);
        fair.sound(0, 0, 2, 2, 10, 10);
        Check.dueText("bears by 200", Check.cell(fair, 0, 0, 4), "200");
        Check.due("customs(7) of the TAPE", fair.customs(7), 1);
    }

    /** "no BOOTHS": former ones keep no fire off, strain nothing, have not to MOVE and are no crowd. */
    private static void boothsOfFormerIceAreGone() {
        IceFair fair = Check.fairOn(5, 5, 90, 90, "near 4;stair 0 0 1;");
        int[][] former = {{0, 4}, {4, 2}, {2, 2}, {3, 3}, {2, 3}, {0, 1}, {1, 4}, {4, 4}, {3, 1}, {1, 1}};
        for (int i = 0; i < former.length; i++) {
            fair.booth(5, true, 9);
            Check.due("set", fair.set(i, former[i][0], former[i][1]), 5);
        }
        fair.ice(5, 5);
        Check.due("customs", Check.customs(fair, "apart 9;near 4;stair 0 0 1;"), 3);
        fair.sound(0, 0, 4, 4, 90, 90);
        Check.due("booth", fair.booth(1, true, 1), 0);
        Check.due("a FIRE where one was", fair.set(0, 2, 2), 1);
        Check.due("soon()", fair.soon(), 5);
        Check.due("proof()", fair.proof(), 1);
        Check.crack(fair, 4, 4, 90, 90);
        Check.due("it alone has to MOVE", fair.count(8), 1);
        Check.due("it alone is SET", fair.count(1), 1);
        fair.clear(0);
        Check.due("none has to MOVE", fair.count(8), 0);
        Check.due("it alone may be laid", fair.lay(), 1);
    }

    /** "Cells x0 .. x1, y0 .. y1", "false, and nothing happens: there are none such." */
    private static void soundAtTheEdgesOfTheIce() {
        int w = 4;
        int h = 7;
        for (int x0 = -1; x0 <= w; x0++) {
            for (int x1 = -1; x1 <= w; x1++) {
                IceFair fair = new IceFair();
                fair.ice(w, h);
                boolean there = x0 >= 0 && x1 < w && x0 <= x1;
                Check.due("sound x " + x0 + " .. " + x1, fair.sound(x0, 2, x1, 4, 5, 6), there);
                dueSounded(fair, there, w, h, x0, x1);
            }
        }
        for (int y0 = -1; y0 <= h; y0++) {
            for (int y1 = -1; y1 <= h; y1++) {
                IceFair fair = new IceFair();
                fair.ice(w, h);
                boolean there = y0 >= 0 && y1 < h && y0 <= y1;
                Check.due("sound y " + y0 + " .. " + y1, fair.sound(1, y0, 2, y1, 5, 6), there);
                for (int at = 0; at < w * h; at++) {
                    boolean in = there && at % w >= 1 && at % w <= 2 && at / w >= y0 && at / w <= y1;
                    Check.dueText("LOW", Check.cell(fair, at % w, at / w, 0), in ? "5" : "0");
                }
            }
        }
        IceFair fair = new IceFair();
        int[][] none = {
            {LEAST, 0, 4, 4}, {0, LEAST, 4, 4}, {0, 0, MOST, 4}, {0, 0, 4, MOST}, {MOST, 0, LEAST, 4},
            {0, MOST, 4, LEAST}, {LEAST, LEAST, MOST, MOST}, {5, 0, 5, 4}, {0, 5, 4, 5}, {-1, -1, -1, -1}};
        for (int[] at : none) {
            Check.due("sound of none", fair.sound(at[0], at[1], at[2], at[3], 1, 1), false);
        }
    }

    private static void dueSounded(IceFair fair, boolean there, int w, int h, int x0, int x1) {
        for (int at = 0; at < w * h; at++) {
            boolean in = there && at % w >= x0 && at % w <= x1 && at / w >= 2 && at / w <= 4;
            Check.dueText("LOW", Check.cell(fair, at % w, at / w, 0), in ? "5" : "0");
            Check.dueText("HIGH", Check.cell(fair, at % w, at / w, 1), in ? "6" : "0");
        }
    }

    private static void soundFromOneCellToAll() {
        IceFair fair = new IceFair();
        fair.ice(10, 10);
        Check.due("the last cell alone", fair.sound(9, 9, 9, 9, 3, 4), true);
        Check.dueText("LOW", Check.cell(fair, 9, 9, 0), "3");
        Check.dueText("beside it", Check.cell(fair, 8, 9, 0), "0");
        Check.due("the first cell alone", fair.sound(0, 0, 0, 0, 5, 6), true);
        Check.dueText("LOW", Check.cell(fair, 0, 0, 0), "5");
        Check.dueText("beside it", Check.cell(fair, 1, 0, 0), "0");
        Check.due("all", fair.sound(0, 0, 9, 9, 7, 8), true);
        for (int at = 0; at < 100; at++) {
            Check.dueText("LOW", Check.cell(fair, at % 10, at / 10, 0), "7");
            Check.dueText("HIGH", Check.cell(fair, at % 10, at / 10, 1), "8");
        }
    }

    /** "each LOW .. HIGH thick (0 .. 99". */
    private static void soundOfSpans() {
        int[] ends = {LEAST, -100, -1, 0, 1, 49, 50, 98, 99, 100, 101, 355, MOST};
        for (int low : ends) {
            for (int high : ends) {
                IceFair fair = new IceFair();
                boolean there = low >= 0 && high <= 99 && low <= high;
                Check.due("sound " + low + " .. " + high, fair.sound(1, 1, 1, 1, low, high), there);
                Check.dueText("LOW", Check.cell(fair, 1, 1, 0), String.valueOf(there ? low : 0));
                Check.dueText("HIGH", Check.cell(fair, 1, 1, 1), String.valueOf(there ? high : 0));
            }
        }
    }

    private static void soundThatIsNoneLeavesAll() {
        IceFair fair = Check.fairOn(4, 3, 40, 50, "near 2;stair 0 0 1;");
        fair.booth(2, true, 3);
        fair.set(0, 1, 1);
        Check.crack(fair, 3, 0, 40, 40);
        String all = Check.allOf(fair, 4, 3);
        int[][] none = {
            {-1, 0, 3, 2, 1, 2}, {0, -1, 3, 2, 1, 2}, {0, 0, 4, 2, 1, 2}, {0, 0, 3, 3, 1, 2}, {2, 0, 1, 2, 1, 2},
            {0, 2, 3, 1, 1, 2}, {0, 0, 3, 2, -1, 2}, {0, 0, 3, 2, 3, 2}, {0, 0, 3, 2, 2, 100}};
        for (int[] a : none) {
            Check.due("sound of none", fair.sound(a[0], a[1], a[2], a[3], a[4], a[5]), false);
        }
        Check.dueText("all is as it was", Check.allOf(fair, 4, 3), all);
    }

    private static void soundAloneMakesNoCrack() {
        IceFair fair = Check.fairOn(3, 3, 50, 50, "near 0;");
        Check.due("sound 0 .. 0", fair.sound(0, 0, 2, 2, 0, 0), true);
        Check.due("no CRACK before the hour", fair.count(3), 0);
        fair.hour(0);
        Check.due("all CRACKS", fair.count(3), 9);
        Check.due("sound 99 .. 99", fair.sound(0, 0, 2, 2, 99, 99), true);
        Check.due("CRACKS until the hour", fair.count(3), 9);
        Check.dueText("it has its BEARING", Check.cell(fair, 1, 1, 4), "9801");
    }

    private static void soundUnderABooth() {
        IceFair fair = Check.fairOn(3, 3, 50, 50, "near 0;");
        fair.booth(50, false, 0);
        fair.set(0, 1, 1);
        Check.due("sound 0 .. 0", fair.sound(0, 0, 2, 2, 0, 0), true);
        Check.dueText("it is SET", Check.look(fair, 0, 0), "1");
        Check.dueText("STRAIN", Check.cell(fair, 1, 1, 3), "200");
        Check.dueText("BEARS", Check.cell(fair, 1, 1, 4), "0");
        Check.dueText("the BOOTH", Check.cell(fair, 1, 1, 5), "0");
        Check.due("it may be cleared", fair.clear(0), true);
        Check.due("but not be SET", fair.set(0, 1, 1), NONE);
    }

    /** "IndexOutOfBoundsException: no such cell." */
    private static void cellsThatAreThereAndThoseThatAreNot() {
        int[][] sizes = {{3, 3}, {3, 10}, {10, 3}, {10, 10}, {7, 4}};
        for (int[] size : sizes) {
            IceFair fair = new IceFair();
            fair.ice(size[0], size[1]);
            for (int y = -1; y <= 11; y++) {
                for (int x = -1; x <= 11; x++) {
                    boolean there = x >= 0 && x < size[0] && y >= 0 && y < size[1];
                    Check.dueText("cell(" + x + ", " + y + ", 1)", Check.cell(fair, x, y, 1), there ? "0" : Check.INDEX);
                }
            }
        }
        IceFair fair = new IceFair();
        int[][] none = {{LEAST, 0}, {0, LEAST}, {MOST, 0}, {0, MOST}, {LEAST, LEAST}, {MOST, MOST}, {10, -1}, {-10, 1}};
        for (int[] at : none) {
            for (int what : new int[] {0, 5, 6, -1}) {
                Check.dueText("cell of none", Check.cell(fair, at[0], at[1], what), Check.INDEX);
            }
        }
    }

    /** "NoSuchElementException: no such what." */
    private static void whatsThatAreThereAndThoseThatAreNot() {
        IceFair fair = Check.fairOn(3, 3, 5, 6, "");
        String[] due = {"5", "6", "0", "0", "25", "-1"};
        for (int what = 0; what < 6; what++) {
            Check.dueText("cell(2, 2, " + what + ")", Check.cell(fair, 2, 2, what), due[what]);
        }
        for (int what : new int[] {-1, 6, 7, 256, LEAST, MOST}) {
            Check.dueText("cell(2, 2, " + what + ")", Check.cell(fair, 2, 2, what), Check.ELEMENT);
        }
    }

    /** "4 times the weight SET there, twice those at the four cells beside, once those at the four across." */
    private static void strainStaysOnTheIce() {
        int[][] sizes = {{3, 3}, {10, 3}, {3, 10}, {10, 10}, {9, 4}};
        for (int[] size : sizes) {
            int w = size[0];
            int h = size[1];
            int[][] places = {{0, 0}, {w - 1, 0}, {0, h - 1}, {w - 1, h - 1}, {w - 1, 1}, {0, 1}, {1, h - 1}, {1, 1}};
            for (int[] at : places) {
                IceFair fair = Check.fairOn(w, h, 99, 99, "");
                fair.booth(50, false, 0);
                fair.set(0, at[0], at[1]);
                dueStrain(fair, w, h, at);
                fair.clear(0);
                for (int i = 0; i < w * h; i++) {
                    Check.dueText("no STRAIN", Check.cell(fair, i % w, i / w, 3), "0");
                }
            }
        }
    }

    private static void dueStrain(IceFair fair, int w, int h, int[] at) {
        int[][] shares = {{4, 2, 0}, {2, 1, 0}, {0, 0, 0}};
        for (int y = 0; y < h; y++) {
            for (int x = 0; x < w; x++) {
                int dx = Math.min(2, Math.abs(x - at[0]));
                int dy = Math.min(2, Math.abs(y - at[1]));
                Check.dueText("STRAIN at " + x + ", " + y + " of one at " + at[0] + ", " + at[1],
                    Check.cell(fair, x, y, 3), String.valueOf(50 * shares[dy][dx]));
            }
        }
    }

    private static void strainOfManyBooths() {
        IceFair fair = Check.fairOn(3, 3, 99, 99, "");
        for (int i = 0; i < 9; i++) {
            fair.booth(50, false, 0);
            Check.due("set " + i, fair.set(i, i % 3, i / 3), 50);
        }
        int[] due = {9, 12, 9, 12, 16, 12, 9, 12, 9};
        for (int i = 0; i < 9; i++) {
            Check.dueText("STRAIN of nine", Check.cell(fair, i % 3, i / 3, 3), String.valueOf(50 * due[i]));
        }
    }

    /** "It BEARS LOW times LOW times bear, by 100, cut." */
    private static void bearingIsCut() {
        int[][] rows = {
            {1, 0, 0}, {1, 9, 0}, {1, 10, 1}, {1, 14, 1}, {1, 15, 2}, {1, 99, 98}, {99, 1, 0}, {100, 1, 1},
            {199, 1, 1}, {200, 1, 2}, {99, 10, 99}, {101, 10, 101}, {999, 1, 9}, {999, 3, 89}, {999, 99, 97911}};
        for (int[] row : rows) {
            IceFair fair = Check.fairOn(3, 3, row[1], 99, "bear " + row[0] + ";");
            Check.dueText("bear " + row[0] + ", LOW " + row[1], Check.cell(fair, 1, 1, 4), String.valueOf(row[2]));
        }
    }
}
