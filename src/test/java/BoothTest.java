/** Promises 7, 8, 9, 15 and 16: booths, setting and clearing them, and what is told of them. */
public final class BoothTest {
    public static void main(String[] args) {
        boothsThatCanBe();
        tenBooths();
        setAndClear();
        setNeedsACellThatIsOpen();
        setKeepsFromCracks();
        setKeepsFiresApart();
        setNeedsIceThatBears();
        oneCellThatGivesStopsAll();
        fees();
        whatALookTells();
        whoHasToMove();
        exceptionsOfLook();
        counts();
        Check.end();
    }

    private static void boothsThatCanBe() {
        IceFair fair = new IceFair();
        Check.due("booth(0, ..)", fair.booth(0, false, 0), IceFair.NONE);
        Check.due("booth(51, ..)", fair.booth(51, false, 0), IceFair.NONE);
        Check.due("booth(-1, ..)", fair.booth(-1, true, 0), IceFair.NONE);
        Check.due("booth of crowd -1", fair.booth(1, false, -1), IceFair.NONE);
        Check.due("booth of crowd 100", fair.booth(1, false, 100), IceFair.NONE);
        Check.due("none of them is there", fair.count(0), 0);
        Check.due("booth(1, false, 0)", fair.booth(1, false, 0), 0);
        Check.due("booth(50, true, 99)", fair.booth(50, true, 99), 1);
        Check.due("two are there", fair.count(0), 2);
    }

    private static void tenBooths() {
        IceFair fair = Check.fairOn(3, 3, 1, 1, "bear 400;near 0;");
        for (int i = 0; i < 10; i++) {
            Check.due("booth " + i, fair.booth(1, false, 0), i);
        }
        Check.due("an eleventh", fair.booth(1, false, 0), IceFair.NONE);
        fair.set(0, 1, 1);
        Check.due("sinks", fair.hour(-1), 1);
        Check.due("SUNK ones are booths too", fair.booth(1, false, 0), IceFair.NONE);
        Check.due("ten", fair.count(0), 10);
    }

    private static void setAndClear() {
        IceFair fair = Check.fairOn(5, 5, 50, 50, "");
        fair.booth(2, false, 0);
        Check.due("clear one that WAITS", fair.clear(0), false);
        Check.due("set(1, ..), no such one", fair.set(1, 0, 0), IceFair.NONE);
        Check.due("set(-1, ..)", fair.set(-1, 0, 0), IceFair.NONE);
        Check.due("set(0, 3, 4)", fair.set(0, 3, 4), 2);
        Check.due("set again", fair.set(0, 0, 0), IceFair.NONE);
        Check.due("clear(1)", fair.clear(1), false);
        Check.due("clear(-1)", fair.clear(-1), false);
        Check.due("clear(most int)", fair.clear(Integer.MAX_VALUE), false);
        Check.due("clear(0)", fair.clear(0), true);
        Check.dueText("it WAITS", Check.look(fair, 0, 0), "0");
        Check.dueText("nobody is there", Check.cell(fair, 3, 4, 5), "-1");
        Check.due("clear(0) again", fair.clear(0), false);
        Check.due("set(0, 0, 0)", fair.set(0, 0, 0), 2);
        fair.sound(0, 0, 0, 0, 0, 0);
        Check.due("sinks", fair.hour(0), 1);
        Check.due("set one that is SUNK", fair.set(0, 4, 4), IceFair.NONE);
        Check.due("clear one that is SUNK", fair.clear(0), false);
    }

    private static void setNeedsACellThatIsOpen() {
        IceFair fair = Check.fairOn(3, 4, 50, 50, "near 0;bear 999;");
        fair.booth(1, false, 0);
        fair.booth(1, false, 0);
        int[][] none = {{-1, 0}, {0, -1}, {3, 0}, {0, 4}, {Integer.MIN_VALUE, 0}, {0, Integer.MAX_VALUE}};
        for (int[] at : none) {
            Check.due("set at no cell", fair.set(0, at[0], at[1]), IceFair.NONE);
        }
        Check.due("set(0, 2, 3)", fair.set(0, 2, 3), 1);
        Check.due("set where one is", fair.set(1, 2, 3), IceFair.NONE);
        fair.sound(0, 0, 0, 0, 0, 9);
        Check.due("set at LOW 0", fair.set(1, 0, 0), IceFair.NONE);
        fair.sound(0, 0, 0, 0, 0, 0);
        fair.hour(0);
        fair.sound(0, 0, 0, 0, 50, 50);
        Check.due("set at a CRACK, near 0", fair.set(1, 0, 0), IceFair.NONE);
        Check.due("set beside it, near 0", fair.set(1, 1, 0), 1);
    }

    private static void setKeepsFromCracks() {
        for (int near = 0; near <= 4; near++) {
            IceFair fair = Check.fairOn(10, 10, 90, 90, "near " + near + ";");
            fair.sound(4, 4, 4, 4, 0, 0);
            fair.hour(0);
            fair.sound(4, 4, 4, 4, 90, 90);
            fair.booth(1, false, 0);
            for (int y = 0; y < 10; y++) {
                for (int x = 0; x < 10; x++) {
                    int far = Math.max(Math.abs(x - 4), Math.abs(y - 4));
                    int due = far >= Math.max(1, near) ? 1 : IceFair.NONE;
                    Check.due("near " + near + " at " + x + ", " + y, fair.set(0, x, y), due);
                    fair.clear(0);
                }
            }
        }
    }

    private static void setKeepsFiresApart() {
        for (int apart = 0; apart <= 9; apart++) {
            IceFair fair = Check.fairOn(10, 10, 90, 90, "apart " + apart + ";");
            fair.booth(1, true, 0);
            fair.booth(1, true, 0);
            fair.booth(1, false, 0);
            fair.booth(1, true, 0);
            fair.set(0, 0, 3);
            for (int y = 0; y < 10; y++) {
                for (int x = 0; x < 10; x++) {
                    int far = Math.max(x, Math.abs(y - 3));
                    boolean free = far > 0;
                    Check.due("apart " + apart + " at " + x + ", " + y,
                        fair.set(1, x, y), free && far >= apart ? 1 : IceFair.NONE);
                    fair.clear(1);
                    Check.due("without a fire", fair.set(2, x, y), free ? 1 : IceFair.NONE);
                    fair.clear(2);
                }
            }
        }
    }

    private static void setNeedsIceThatBears() {
        // LOW 10 bears 100: a weight of 25 and no more, if nothing is by it.
        IceFair fair = Check.fairOn(5, 5, 10, 20, "");
        fair.booth(26, false, 0);
        fair.booth(25, false, 0);
        fair.booth(12, false, 0);
        fair.booth(13, false, 0);
        Check.due("26", fair.set(0, 2, 2), IceFair.NONE);
        Check.due("25", fair.set(1, 2, 2), 25);
        Check.due("12 beside", fair.set(2, 2, 1), IceFair.NONE);
        Check.due("12 across", fair.set(2, 1, 1), IceFair.NONE);
        Check.due("12 two off", fair.set(2, 0, 2), 12);
        fair.clear(1);
        fair.clear(2);
        // A thin cell beside bears 4 * 4 = 16 and has twice the weight.
        fair.sound(3, 2, 3, 2, 4, 4);
        Check.due("12 by the thin cell", fair.set(2, 2, 2), IceFair.NONE);
        Check.due("12 across from it", fair.set(2, 2, 1), 12);
        Check.due("13 on the other side", fair.set(3, 4, 3), IceFair.NONE);
        fair.clear(2);
        Check.due("13 alone", fair.set(3, 4, 3), 13);
    }

    private static void oneCellThatGivesStopsAll() {
        IceFair fair = Check.fairOn(10, 10, 50, 50, "");
        fair.booth(10, false, 0);
        fair.booth(1, false, 0);
        fair.set(0, 0, 0);
        fair.sound(0, 0, 0, 0, 6, 50);
        Check.due("far off, a cell gives", fair.set(1, 9, 9), IceFair.NONE);
        fair.sound(0, 0, 0, 0, 7, 50);
        Check.due("far off, all bear", fair.set(1, 9, 9), 1);
        fair.clear(1);
        // A crack with a strain has to bear it too.
        fair.sound(1, 1, 1, 1, 0, 0);
        fair.hour(0);
        Check.due("a crack across gives", fair.set(1, 9, 9), IceFair.NONE);
        fair.sound(1, 1, 1, 1, 9, 9);
        Check.due("a crack across bears", fair.set(1, 9, 9), 1);
    }

    private static void fees() {
        IceFair fair = Check.fairOn(5, 5, 50, 50, "fee 7 13;");
        fair.booth(3, true, 0);
        fair.booth(4, false, 0);
        Check.due("with a fire", fair.set(0, 0, 0), 34);
        Check.due("without", fair.set(1, 4, 4), 28);
        Check.due("all fees", fair.count(5), 62);
        fair.clear(0);
        Check.due("clear gives none back", fair.count(5), 62);
        Check.due("paid each time", fair.set(0, 0, 0), 34);
        Check.due("all fees", fair.count(5), 96);
        fair.clear(0);
        Check.due("not set", fair.set(0, 4, 4), IceFair.NONE);
        Check.due("all fees, none is paid", fair.count(5), 96);
        Check.due("laid", fair.lay(), 1);
        Check.due("paid when laid", fair.count(5), 130);
        Check.customs(fair, "fee 0 0;");
        fair.clear(1);
        Check.due("a fee of 0", fair.set(1, 4, 4), 0);
    }

    private static void whatALookTells() {
        IceFair fair = Check.fairOn(5, 5, 50, 50, "stair 0 0 1;");
        fair.booth(1, false, 0);
        String[] waits = {"0", "-1", "-1", "0", "-1"};
        String[] isSet = {"1", "3", "4", "0", "7"};
        String[] sunk = {"2", "-1", "-1", "0", "-1"};
        for (int what = 0; what < 5; what++) {
            Check.dueText("look " + what + " while it WAITS", Check.look(fair, 0, what), waits[what]);
        }
        fair.set(0, 3, 4);
        for (int what = 0; what < 5; what++) {
            Check.dueText("look " + what + " while it is SET", Check.look(fair, 0, what), isSet[what]);
        }
        fair.sound(3, 4, 3, 4, 0, 0);
        fair.hour(0);
        for (int what = 0; what < 5; what++) {
            Check.dueText("look " + what + " when it is SUNK", Check.look(fair, 0, what), sunk[what]);
        }
    }

    private static void whoHasToMove() {
        IceFair fair = Check.fairOn(10, 3, 50, 50, "near 3;");
        fair.booth(1, false, 0);
        fair.booth(1, false, 0);
        fair.booth(1, false, 0);
        fair.set(0, 2, 1);
        fair.set(1, 3, 1);
        fair.sound(0, 0, 0, 0, 0, 0);
        fair.hour(0);
        Check.dueText("two off a CRACK", Check.look(fair, 0, 3), "1");
        Check.dueText("three off", Check.look(fair, 1, 3), "0");
        Check.dueText("one that WAITS", Check.look(fair, 2, 3), "0");
        Check.due("one has to MOVE", fair.count(8), 1);
        Check.customs(fair, "near 4;");
        Check.due("two by other customs", fair.count(8), 2);
        Check.customs(fair, "near 2;");
        Check.due("none by these", fair.count(8), 0);
    }

    private static void exceptionsOfLook() {
        IceFair fair = new IceFair();
        fair.booth(1, false, 0);
        int[] none = {-1, 1, 10, Integer.MIN_VALUE, Integer.MAX_VALUE};
        for (int number : none) {
            Check.dueText("look of none", Check.look(fair, number, 0), Check.INDEX);
            Check.dueText("look of none, of a what that is none", Check.look(fair, number, 5), Check.INDEX);
        }
        Check.dueText("look(0, 5)", Check.look(fair, 0, 5), Check.ELEMENT);
        Check.dueText("look(0, -1)", Check.look(fair, 0, -1), Check.ELEMENT);
    }

    private static void counts() {
        IceFair fair = Check.fairOn(5, 5, 50, 50, "stair 0 0 1;stair 9 9 1;");
        for (int i = 0; i < 4; i++) {
            fair.booth(1, false, 0);
        }
        fair.set(0, 0, 0);
        fair.set(1, 4, 4);
        fair.set(2, 1, 4);
        fair.sound(0, 0, 0, 0, 0, 0);
        Check.due("hour(0)", fair.hour(0), 1);
        int[] due = {4, 2, 1, 1, 1, 3, 0, 2, 0};
        for (int what = 0; what < due.length; what++) {
            Check.due("count(" + what + ")", fair.count(what), due[what]);
        }
        Check.due("lay()", fair.lay(), 1);
        // (1, 0) is tried first: the crack beside it bears nothing.
        Check.due("LOOKS", fair.count(6), 2);
        Check.due("lay() of none", fair.lay(), 0);
        Check.due("LOOKS", fair.count(6), 0);
        Check.due("count(9)", fair.count(9), IceFair.NONE);
        Check.due("count(-1)", fair.count(-1), IceFair.NONE);
        Check.due("count(least int)", fair.count(Integer.MIN_VALUE), IceFair.NONE);
    }
}
