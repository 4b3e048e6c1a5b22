/** Promises 1, 5, 6 and 14: a new object, the ice, sounding, and what is told of a cell. */
public final class IceTest {
    public static void main(String[] args) {
        aNewObject();
        newIce();
        newIceForgetsTheFair();
        soundedCells();
        soundsThatAreNone();
        soundingLeavesCracks();
        whatACellTells();
        strainOfCells();
        exceptionsOfCell();
        Check.end();
    }

    private static void aNewObject() {
        IceFair fair = new IceFair();
        for (int what = 0; what <= 8; what++) {
            Check.due("count(" + what + ")", fair.count(what), 0);
        }
        Check.dueText("cell(4, 4, 0)", Check.cell(fair, 4, 4, 0), "0");
        Check.dueText("cell(4, 4, 1)", Check.cell(fair, 4, 4, 1), "0");
        Check.dueText("cell(4, 4, 2)", Check.cell(fair, 4, 4, 2), "0");
        Check.dueText("cell(4, 4, 5)", Check.cell(fair, 4, 4, 5), "-1");
        Check.dueText("cell(5, 4, 0)", Check.cell(fair, 5, 4, 0), Check.INDEX);
        Check.dueText("cell(4, 5, 0)", Check.cell(fair, 4, 5, 0), Check.INDEX);
        Check.dueText("look(0, 0)", Check.look(fair, 0, 0), Check.INDEX);
        Check.due("customs(1), the tape is empty", fair.customs(1), -2);
        Check.due("fault(0)", fair.fault(0), 0);
        Check.due("soon()", fair.soon(), 0);
        Check.due("proof()", fair.proof(), IceFair.NONE);
        Check.due("lay()", fair.lay(), 0);
        Check.due("sound", fair.sound(0, 0, 4, 4, 10, 10), true);
        Check.dueText("bears as usual", Check.cell(fair, 2, 2, 4), "100");
        Check.due("NONE", IceFair.NONE, -1);
    }

    private static void newIce() {
        IceFair fair = new IceFair();
        int[][] wrong = {
            {2, 5}, {5, 2}, {11, 5}, {5, 11}, {0, 0}, {-3, 5}, {Integer.MIN_VALUE, 5}, {5, Integer.MAX_VALUE}};
        fair.sound(0, 0, 4, 4, 7, 8);
        for (int[] sides : wrong) {
            Check.due("ice(" + sides[0] + ", " + sides[1] + ")", fair.ice(sides[0], sides[1]), false);
        }
        Check.dueText("cell after ices that are none", Check.cell(fair, 4, 4, 0), "7");
        Check.due("ice(3, 10)", fair.ice(3, 10), true);
        Check.dueText("cell(2, 9, 0)", Check.cell(fair, 2, 9, 0), "0");
        Check.dueText("cell(3, 0, 0)", Check.cell(fair, 3, 0, 0), Check.INDEX);
        Check.dueText("cell(0, 10, 0)", Check.cell(fair, 0, 10, 0), Check.INDEX);
        Check.due("ice(10, 3)", fair.ice(10, 3), true);
        Check.dueText("cell(9, 2, 0)", Check.cell(fair, 9, 2, 0), "0");
        Check.dueText("cell(0, 3, 0)", Check.cell(fair, 0, 3, 0), Check.INDEX);
    }

    private static void newIceForgetsTheFair() {
        IceFair fair = Check.fairOn(4, 4, 20, 30, "bear 49;fee 3 0;stair 0 0 1;");
        fair.booth(5, true, 5);
        fair.booth(50, true, 5);
        fair.booth(5, true, 5);
        Check.due("set", fair.set(0, 1, 1), 15);
        Check.due("lay()", fair.lay(), IceFair.NONE);
        int looks = fair.count(6);
        fair.sound(3, 3, 3, 3, 0, 0);
        fair.hour(0);
        Check.due("cracks", fair.count(3), 1);
        Check.due("ice(4, 4)", fair.ice(4, 4), true);
        int[] due = {0, 0, 0, 0, 0, 0, looks, 1, 0};
        for (int what = 0; what < due.length; what++) {
            Check.due("count(" + what + ") on new ice", fair.count(what), due[what]);
        }
        for (int what = 0; what < 6; what++) {
            Check.dueText("cell(1, 1, " + what + ") on new ice", Check.cell(fair, 1, 1, what), what == 5 ? "-1" : "0");
            Check.dueText("cell(3, 3, " + what + ") on new ice", Check.cell(fair, 3, 3, what), what == 5 ? "-1" : "0");
        }
        Check.dueText("look(0, 0) on new ice", Check.look(fair, 0, 0), Check.INDEX);
        fair.sound(0, 0, 3, 3, 20, 20);
        Check.dueText("bears by the same customs", Check.cell(fair, 1, 1, 4), "196");
        Check.due("a first booth again", fair.booth(1, false, 0), 0);
        Check.dueText("it waits", Check.look(fair, 0, 0), "0");
    }

    private static void soundedCells() {
        IceFair fair = new IceFair();
        Check.due("sound(1, 2, 3, 3, 4, 9)", fair.sound(1, 2, 3, 3, 4, 9), true);
        for (int y = 0; y < 5; y++) {
            for (int x = 0; x < 5; x++) {
                boolean in = x >= 1 && x <= 3 && y >= 2 && y <= 3;
                Check.dueText("LOW at " + x + ", " + y, Check.cell(fair, x, y, 0), in ? "4" : "0");
                Check.dueText("HIGH at " + x + ", " + y, Check.cell(fair, x, y, 1), in ? "9" : "0");
            }
        }
        Check.due("sound 0 .. 99", fair.sound(0, 0, 0, 0, 0, 99), true);
        Check.due("sound 99 .. 99", fair.sound(4, 4, 4, 4, 99, 99), true);
        Check.due("sound 0 .. 0", fair.sound(2, 2, 2, 2, 0, 0), true);
        Check.dueText("sounded anew", Check.cell(fair, 2, 2, 1), "0");
    }

    private static void soundsThatAreNone() {
        IceFair fair = new IceFair();
        int[][] wrong = {
            {-1, 0, 0, 0, 1, 1}, {0, -1, 0, 0, 1, 1}, {0, 0, 5, 0, 1, 1}, {0, 0, 0, 5, 1, 1},
            {1, 0, 0, 0, 1, 1}, {0, 1, 0, 0, 1, 1}, {0, 0, 0, 0, 2, 1}, {0, 0, 0, 0, -1, 1},
            {0, 0, 0, 0, 1, 100}, {0, 0, 0, 0, 100, 100}, {Integer.MIN_VALUE, 0, 0, 0, 1, 1},
            {0, 0, Integer.MAX_VALUE, 0, 1, 1}, {0, 0, 0, 0, Integer.MIN_VALUE, Integer.MAX_VALUE}};
        for (int[] a : wrong) {
            Check.due("sound of none", fair.sound(a[0], a[1], a[2], a[3], a[4], a[5]), false);
        }
        Check.dueText("nothing happened", Check.cell(fair, 0, 0, 1), "0");
    }

    private static void soundingLeavesCracks() {
        IceFair fair = new IceFair();
        fair.hour(0);
        Check.due("all cracked", fair.count(3), 25);
        fair.sound(0, 0, 4, 4, 50, 60);
        Check.due("still cracked", fair.count(3), 25);
        Check.dueText("cell(0, 0, 2)", Check.cell(fair, 0, 0, 2), "1");
    }

    private static void whatACellTells() {
        IceFair fair = Check.fairOn(5, 5, 7, 9, "bear 999;");
        Check.dueText("LOW", Check.cell(fair, 1, 2, 0), "7");
        Check.dueText("HIGH", Check.cell(fair, 1, 2, 1), "9");
        Check.dueText("no CRACK", Check.cell(fair, 1, 2, 2), "0");
        Check.dueText("BEARS, cut", Check.cell(fair, 1, 2, 4), "489");
        Check.dueText("nobody", Check.cell(fair, 1, 2, 5), "-1");
        fair.booth(1, false, 0);
        fair.booth(2, false, 0);
        fair.set(1, 1, 2);
        Check.dueText("booth 1", Check.cell(fair, 1, 2, 5), "1");
        fair.sound(0, 0, 0, 0, 99, 99);
        Check.dueText("the most it BEARS", Check.cell(fair, 0, 0, 4), "97911");
        fair.sound(0, 0, 0, 0, 0, 0);
        fair.hour(0);
        Check.dueText("a CRACK", Check.cell(fair, 0, 0, 2), "1");
    }

    private static void strainOfCells() {
        IceFair fair = Check.fairOn(5, 5, 50, 50, "");
        fair.booth(3, false, 0);
        fair.booth(10, false, 0);
        fair.set(0, 2, 2);
        fair.set(1, 0, 0);
        String[][] due = {
            {"40", "20", "0", "0", "0"},
            {"20", "13", "6", "3", "0"},
            {"0", "6", "12", "6", "0"},
            {"0", "3", "6", "3", "0"},
            {"0", "0", "0", "0", "0"}};
        for (int y = 0; y < 5; y++) {
            for (int x = 0; x < 5; x++) {
                Check.dueText("STRAIN at " + x + ", " + y, Check.cell(fair, x, y, 3), due[y][x]);
            }
        }
        fair.clear(1);
        Check.dueText("STRAIN after clear", Check.cell(fair, 1, 1, 3), "3");
        Check.dueText("STRAIN after clear", Check.cell(fair, 0, 0, 3), "0");
    }

    private static void exceptionsOfCell() {
        IceFair fair = new IceFair();
        int[][] none = {{-1, 0}, {0, -1}, {5, 0}, {0, 5}, {Integer.MIN_VALUE, 0}, {0, Integer.MAX_VALUE}};
        for (int[] at : none) {
            Check.dueText("cell of none", Check.cell(fair, at[0], at[1], 0), Check.INDEX);
            Check.dueText("cell of none, of a what that is none", Check.cell(fair, at[0], at[1], 6), Check.INDEX);
        }
        Check.dueText("cell(0, 0, 6)", Check.cell(fair, 0, 0, 6), Check.ELEMENT);
        Check.dueText("cell(0, 0, -1)", Check.cell(fair, 0, 0, -1), Check.ELEMENT);
        Check.dueText("cell(0, 0, least int)", Check.cell(fair, 0, 0, Integer.MIN_VALUE), Check.ELEMENT);
    }
}
