/** The boundary cases of booths: promises 7, 8, 9, 15, 16 and their words in 'Terms'. */
public final class BoothEdgesTest {
    private static final int NONE = IceFair.NONE;
    private static final int LEAST = Integer.MIN_VALUE;
    private static final int MOST = Integer.MAX_VALUE;
    private static final int[] NO_NUMBERS = {LEAST, -10, -1, 2, 3, 10, 11, 256, MOST};

    public static void main(String[] args) {
        weightsOfOneToFifty();
        crowdsOfNoneToNinetyNine();
        tenBoothsAndAnEleventh();
        boothsThatCannotBeLeaveAll();
        setOfNoSuchBooth();
        setAtNoSuchCell();
        setOneThatDoesNotWait();
        setWhereOneIs();
        setAtLowOfNothingAndOfOne();
        setAtACrack();
        setJustAsNearAsTheCracksAllow();
        everyCrackCounts();
        setJustAsFarApartAsFiresMustBe();
        onlyFiresThatAreSetCount();
        eachOfTheNineCellsHasToBear();
        otherBoothsStrainToo();
        cellsWithoutStrainNeedNotBear();
        aCellAnywhereHasToBear();
        setThatIsRefusedLeavesAll();
        clearOfNoneSuch();
        clearLeavesFeesAndMaySetAgain();
        sunkForEver();
        leastAndMostFees();
        looksOfNoSuchBooth();
        looksOfNoSuchWhat();
        whoHasToMoveAtTheBoundary();
        stepsAtTheBoundary();
        countsOfNoSuchWhat();
        countsFromNoneToAll();
        Check.end();
    }

    /** "a weight 1 .. 50", "NONE: it can't be". */
    private static void weightsOfOneToFifty() {
        for (int weight : new int[] {LEAST, -50, -1, 0, 1, 2, 49, 50, 51, 257, MOST}) {
            for (boolean fire : new boolean[] {false, true}) {
                IceFair fair = Check.fairOn(3, 3, 99, 99, "");
                boolean there = weight >= 1 && weight <= 50;
                Check.due("booth(" + weight + ", ..)", fair.booth(weight, fire, 0), there ? 0 : NONE);
                Check.due("BOOTHS", fair.count(0), there ? 1 : 0);
                Check.due("its FEE is its weight", fair.set(0, 0, 0), there ? weight : NONE);
            }
        }
    }

    /** "a crowd 0 .. 99". */
    private static void crowdsOfNoneToNinetyNine() {
        for (int crowd : new int[] {LEAST, -99, -1, 0, 1, 98, 99, 100, 256, MOST}) {
            IceFair fair = Check.fairOn(3, 3, 99, 99, "stair 0 0 1;");
            boolean there = crowd >= 0 && crowd <= 99;
            Check.due("booth of crowd " + crowd, fair.booth(1, false, crowd), there ? 0 : NONE);
            Check.due("BOOTHS", fair.count(0), there ? 1 : 0);
            Check.due("set", fair.set(0, 0, 0), there ? 1 : NONE);
            Check.due("a man a minute", fair.soon(), there ? crowd : 0);
        }
    }

    /** "BOOTHS, at most 10, numbered from 0 on", "NONE: .. there are 10." */
    private static void tenBoothsAndAnEleventh() {
        IceFair fair = Check.fairOn(4, 3, 50, 50, "");
        for (int i = 0; i < 10; i++) {
            Check.due("one that can't be", fair.booth(0, false, 0), NONE);
            Check.due("booth " + i, fair.booth(1 + i, false, i), i);
            Check.due("BOOTHS", fair.count(0), i + 1);
        }
        Check.due("an eleventh", fair.booth(1, false, 0), NONE);
        Check.due("an eleventh that can't be", fair.booth(51, false, 0), NONE);
        Check.due("ten", fair.count(0), 10);
        Check.due("the last has its weight", fair.set(9, 0, 0), 10);
        fair.clear(9);
        Check.due("an eleventh, one was cleared", fair.booth(1, false, 0), NONE);
    }

    private static void boothsThatCannotBeLeaveAll() {
        IceFair fair = Check.fairOn(3, 3, 50, 50, "stair 0 0 1;");
        fair.booth(3, true, 4);
        fair.set(0, 1, 1);
        fair.booth(3, true, 4);
        String all = Check.allOf(fair, 3, 3);
        fair.booth(0, true, 4);
        fair.booth(51, true, 4);
        fair.booth(3, true, -1);
        fair.booth(3, true, 100);
        Check.dueText("all is as it was", Check.allOf(fair, 3, 3), all);
    }

    /** "NONE: no such one". */
    private static void setOfNoSuchBooth() {
        IceFair fair = Check.fairOn(3, 3, 50, 50, "");
        Check.due("set(0, ..) of no booths", fair.set(0, 0, 0), NONE);
        fair.booth(1, false, 0);
        fair.booth(2, false, 0);
        for (int number : NO_NUMBERS) {
            Check.due("set(" + number + ", ..)", fair.set(number, 0, 0), NONE);
        }
        Check.due("set(1, ..)", fair.set(1, 0, 0), 2);
        Check.due("set(0, ..)", fair.set(0, 2, 2), 1);
    }

    /** "NONE: no such .. cell", "may be SET at a cell if it is there". */
    private static void setAtNoSuchCell() {
        int[][] sizes = {{3, 10}, {10, 3}, {10, 10}, {4, 6}};
        for (int[] size : sizes) {
            IceFair fair = Check.fairOn(size[0], size[1], 50, 50, "");
            fair.booth(1, false, 0);
            for (int i = -1; i <= 10; i++) {
                boolean inX = i >= 0 && i < size[0];
                boolean inY = i >= 0 && i < size[1];
                Check.due("set(0, " + i + ", 0)", fair.set(0, i, 0), inX ? 1 : NONE);
                Check.due("clear(0)", fair.clear(0), inX);
                Check.due("set(0, 0, " + i + ")", fair.set(0, 0, i), inY ? 1 : NONE);
                Check.due("clear(0)", fair.clear(0), inY);
            }
            int[][] none = {{LEAST, 0}, {0, LEAST}, {MOST, 0}, {0, MOST}, {-1, 1}, {size[0], -1}, {MOST, MOST}};
            for (int[] at : none) {
                Check.due("set at no cell", fair.set(0, at[0], at[1]), NONE);
            }
            Check.due("no one is SET", fair.count(1), 0);
        }
    }

    /** "A BOOTH that WAITS is SET". */
    private static void setOneThatDoesNotWait() {
        IceFair fair = Check.fairOn(3, 3, 50, 50, "near 0;");
        fair.booth(1, false, 0);
        Check.due("set", fair.set(0, 0, 0), 1);
        Check.due("one that is SET, elsewhere", fair.set(0, 2, 2), NONE);
        Check.due("one that is SET, where it is", fair.set(0, 0, 0), NONE);
        Check.dueText("it stays, x", Check.look(fair, 0, 1), "0");
        Check.dueText("it stays, y", Check.look(fair, 0, 2), "0");
        fair.sound(0, 0, 0, 0, 0, 0);
        Check.due("it sinks", fair.hour(0), 1);
        Check.due("one that is SUNK", fair.set(0, 2, 2), NONE);
        Check.due("FEES", fair.count(5), 1);
    }

    /** "none is SET there". */
    private static void setWhereOneIs() {
        IceFair fair = Check.fairOn(3, 3, 50, 50, "");
        fair.booth(1, false, 0);
        fair.booth(1, false, 0);
        fair.set(0, 1, 1);
        for (int at = 0; at < 9; at++) {
            Check.due("set at " + at % 3 + ", " + at / 3, fair.set(1, at % 3, at / 3), at == 4 ? NONE : 1);
            fair.clear(1);
        }
        fair.clear(0);
        Check.due("where one was", fair.set(1, 1, 1), 1);
    }

    /** "LOW is above 0". */
    private static void setAtLowOfNothingAndOfOne() {
        IceFair fair = Check.fairOn(3, 3, 50, 50, "bear 999;");
        fair.booth(1, false, 0);
        fair.sound(1, 1, 1, 1, 0, 99);
        Check.due("LOW 0", fair.set(0, 1, 1), NONE);
        fair.sound(1, 1, 1, 1, 1, 1);
        Check.due("LOW 1", fair.set(0, 1, 1), 1);
    }

    /** "it is no CRACK": with near 0 a crack is kept from for itself alone. */
    private static void setAtACrack() {
        IceFair fair = Check.fairOn(3, 3, 50, 50, "near 0;heal 50;");
        fair.booth(1, false, 0);
        Check.crack(fair, 1, 1, 49, 50);
        fair.hour(0);
        Check.due("a CRACK that is thick", fair.set(0, 1, 1), NONE);
        Check.due("beside it", fair.set(0, 1, 0), 1);
        fair.clear(0);
        Check.due("across", fair.set(0, 0, 0), 1);
        fair.clear(0);
        fair.sound(1, 1, 1, 1, 50, 50);
        fair.hour(0);
        Check.due("it is healed", fair.set(0, 1, 1), 1);
    }

    /** "each CRACK is near FAR at least", "FAR of two cells: the greater of the differences of x and y." */
    private static void setJustAsNearAsTheCracksAllow() {
        int[][] corners = {{0, 0}, {9, 0}, {0, 9}, {9, 9}};
        for (int near = 0; near <= 4; near++) {
            for (int[] crack : corners) {
                IceFair fair = Check.fairOn(10, 10, 90, 90, "near " + near + ";");
                Check.crack(fair, crack[0], crack[1], 90, 90);
                fair.booth(1, false, 0);
                for (int at = 0; at < 100; at++) {
                    int far = Math.max(Math.abs(at % 10 - crack[0]), Math.abs(at / 10 - crack[1]));
                    boolean may = far > 0 && far >= near;
                    Check.due("near " + near + ", FAR " + far, fair.set(0, at % 10, at / 10), may ? 1 : NONE);
                    Check.due("clear", fair.clear(0), may);
                }
            }
        }
    }

    private static void everyCrackCounts() {
        IceFair fair = Check.fairOn(9, 3, 90, 90, "near 4;");
        fair.booth(1, false, 0);
        Check.crack(fair, 0, 2, 90, 90);
        Check.due("four off one CRACK", fair.set(0, 4, 0), 1);
        fair.clear(0);
        Check.crack(fair, 8, 0, 90, 90);
        Check.due("four off two CRACKS", fair.set(0, 4, 0), 1);
        fair.clear(0);
        Check.due("three off the second", fair.set(0, 5, 0), NONE);
        Check.due("three off the first", fair.set(0, 3, 0), NONE);
    }

    /** "if it has a FIRE others with one are apart FAR at least". */
    private static void setJustAsFarApartAsFiresMustBe() {
        for (int apart = 0; apart <= 9; apart++) {
            IceFair fair = Check.fairOn(10, 10, 90, 90, "apart " + apart + ";");
            fair.booth(1, true, 0);
            fair.booth(1, true, 0);
            fair.set(0, 9, 9);
            for (int at = 0; at < 99; at++) {
                int far = Math.max(9 - at % 10, 9 - at / 10);
                Check.due("apart " + apart + ", FAR " + far, fair.set(1, at % 10, at / 10), far >= apart ? 1 : NONE);
                Check.due("clear", fair.clear(1), far >= apart);
            }
        }
    }

    private static void onlyFiresThatAreSetCount() {
        IceFair fair = Check.fairOn(10, 3, 90, 90, "apart 3;near 0;");
        fair.booth(1, true, 0);
        fair.booth(1, true, 0);
        fair.booth(1, false, 0);
        fair.booth(1, true, 0);
        Check.due("no other is SET", fair.set(1, 0, 0), 1);
        fair.clear(1);
        Check.due("the other WAITS", fair.set(0, 0, 0), 1);
        Check.due("one without a FIRE", fair.set(2, 1, 0), 1);
        Check.due("two off a FIRE", fair.set(1, 2, 0), NONE);
        Check.due("three off the FIRE, two off one without", fair.set(1, 3, 0), 1);
        Check.due("three off one FIRE, none off another", fair.set(3, 5, 2), NONE);
        Check.due("three off both", fair.set(3, 6, 2), 1);
        fair.clear(3);
        fair.sound(3, 0, 3, 0, 0, 0);
        Check.due("one sinks", fair.hour(0), 1);
        fair.sound(3, 0, 3, 0, 90, 90);
        Check.due("a FIRE that is SUNK is none", fair.set(3, 4, 2), 1);
    }

    /** "and then each cell with a STRAIN above 0 BEARS as much": as much is enough, one less is not. */
    private static void eachOfTheNineCellsHasToBear() {
        for (int dy = -1; dy <= 1; dy++) {
            for (int dx = -1; dx <= 1; dx++) {
                // A weight of 25, 18 or 36 strains a cell on, beside or across by the square of 10, 6 or 6.
                int off = Math.abs(dx) + Math.abs(dy);
                int weight = off == 0 ? 25 : off == 1 ? 18 : 36;
                int low = off == 0 ? 10 : 6;
                IceFair fair = Check.fairOn(5, 5, 90, 90, "");
                fair.booth(weight, false, 0);
                fair.booth(weight + 1, false, 0);
                fair.sound(2 + dx, 2 + dy, 2 + dx, 2 + dy, low, 90);
                Check.due("it BEARS one less", fair.set(1, 2, 2), NONE);
                Check.due("it BEARS as much", fair.set(0, 2, 2), weight);
                fair.clear(0);
                fair.sound(2 + dx, 2 + dy, 2 + dx, 2 + dy, low - 1, 90);
                Check.due("it BEARS less", fair.set(0, 2, 2), NONE);
            }
        }
    }

    private static void otherBoothsStrainToo() {
        // 25 at a cell of LOW 10 is all that it bears, so no booth may come by it, and any may two off.
        IceFair fair = Check.fairOn(5, 5, 90, 90, "");
        fair.sound(2, 2, 2, 2, 10, 90);
        fair.booth(25, false, 0);
        fair.booth(1, false, 0);
        fair.set(0, 2, 2);
        for (int at = 0; at < 25; at++) {
            boolean by = Math.abs(at % 5 - 2) <= 1 && Math.abs(at / 5 - 2) <= 1;
            Check.due("1 at " + at % 5 + ", " + at / 5, fair.set(1, at % 5, at / 5), by ? NONE : 1);
            fair.clear(1);
        }
    }

    private static void cellsWithoutStrainNeedNotBear() {
        IceFair fair = Check.fairOn(5, 5, 50, 50, "near 0;");
        fair.booth(1, false, 0);
        fair.sound(3, 0, 3, 4, 0, 50);
        Check.due("a row of LOW 0 beside", fair.set(0, 2, 2), NONE);
        Check.due("a row of LOW 0 two off", fair.set(0, 1, 2), 1);
        fair.clear(0);
        fair.sound(4, 0, 4, 4, 0, 0);
        fair.hour(0);
        Check.due("CRACKS that bear nothing, two off", fair.set(0, 1, 2), 1);
    }

    private static void aCellAnywhereHasToBear() {
        // Under 9 a cell of LOW 6 bears just as much: with LOW 5 nobody may be SET, however far off.
        for (int at = 0; at < 16; at++) {
            int x = at % 4;
            int y = at / 4;
            IceFair fair = Check.fairOn(4, 4, 90, 90, "");
            fair.booth(9, false, 0);
            fair.booth(1, false, 0);
            fair.set(0, x, y);
            fair.sound(x, y, x, y, 5, 90);
            Check.due("a cell that gives at " + x + ", " + y, fair.set(1, (x + 2) % 4, (y + 2) % 4), NONE);
            fair.sound(x, y, x, y, 6, 90);
            Check.due("a cell that bears at " + x + ", " + y, fair.set(1, (x + 2) % 4, (y + 2) % 4), 1);
        }
    }

    private static void setThatIsRefusedLeavesAll() {
        IceFair fair = Check.fairOn(4, 4, 40, 50, "apart 3;stair 0 0 1;near 2;");
        fair.booth(2, true, 3);
        fair.booth(50, true, 3);
        fair.set(0, 0, 1);
        Check.crack(fair, 3, 3, 40, 40);
        fair.sound(0, 3, 0, 3, 0, 9);
        fair.sound(3, 0, 3, 0, 9, 9);
        String all = Check.allOf(fair, 4, 4);
        int[][] refused = {
            {1, 4, 0}, {1, 0, 4}, {1, -1, 0}, {1, 0, -1}, {2, 3, 1}, {-1, 3, 1}, {0, 3, 1}, {1, 0, 1}, {1, 0, 3},
            {1, 3, 3}, {1, 3, 2}, {1, 2, 1}, {1, 3, 0}};
        for (int[] row : refused) {
            Check.due("set(" + row[0] + ", " + row[1] + ", " + row[2] + ")", fair.set(row[0], row[1], row[2]), NONE);
        }
        Check.dueText("all is as it was", Check.allOf(fair, 4, 4), all);
        Check.due("the thin cell beside gives", fair.set(1, 3, 1), NONE);
        fair.sound(3, 0, 3, 0, 10, 10);
        Check.due("now it BEARS as much", fair.set(1, 3, 1), 50);
    }

    /** "A BOOTH that is SET WAITS again: true; false: none such." */
    private static void clearOfNoneSuch() {
        IceFair fair = Check.fairOn(3, 3, 50, 50, "");
        Check.due("clear(0) of no booths", fair.clear(0), false);
        fair.booth(1, false, 0);
        fair.booth(1, false, 0);
        fair.set(1, 2, 2);
        String all = Check.allOf(fair, 3, 3);
        for (int number : NO_NUMBERS) {
            Check.due("clear(" + number + ")", fair.clear(number), false);
        }
        Check.due("clear one that WAITS", fair.clear(0), false);
        Check.dueText("all is as it was", Check.allOf(fair, 3, 3), all);
        Check.due("clear one that is SET", fair.clear(1), true);
        Check.due("clear it again", fair.clear(1), false);
    }

    private static void clearLeavesFeesAndMaySetAgain() {
        IceFair fair = Check.fairOn(3, 3, 50, 50, "stair 0 0 1;");
        fair.booth(7, true, 9);
        String before = Check.allOf(fair, 3, 3);
        fair.set(0, 1, 1);
        fair.clear(0);
        Check.due("FEES", fair.count(5), 7);
        Check.dueText("but for the FEES all is as before", Check.allOf(fair, 3, 3),
            before.replace("counts 1 0 0 0 0 0 ", "counts 1 0 0 0 0 7 "));
        Check.due("set again", fair.set(0, 1, 1), 7);
        Check.due("FEES", fair.count(5), 14);
    }

    /** "or is SUNK (for ever)": though the ice is thick and whole again. */
    private static void sunkForEver() {
        IceFair fair = Check.fairOn(3, 3, 50, 50, "heal 1;near 0;");
        fair.booth(1, true, 5);
        fair.set(0, 1, 1);
        fair.sound(1, 1, 1, 1, 0, 0);
        Check.due("it sinks", fair.hour(0), 1);
        fair.sound(0, 0, 2, 2, 99, 99);
        Check.due("hour(9)", fair.hour(9), 0);
        Check.due("no CRACKS", fair.count(3), 0);
        Check.due("clear", fair.clear(0), false);
        Check.due("set", fair.set(0, 1, 1), NONE);
        Check.due("lay()", fair.lay(), 0);
        Check.due("customs", Check.customs(fair, "stair 0 0 1;"), 1);
        String[] due = {"2", "-1", "-1", "0", "-1"};
        for (int what = 0; what < 5; what++) {
            Check.dueText("look(0, " + what + ")", Check.look(fair, 0, what), due[what]);
        }
        Check.due("SUNK", fair.count(2), 1);
        Check.due("nobody goes", fair.soon(), 0);
        Check.due("another may have the cell", fair.booth(1, false, 0), 1);
        Check.due("set", fair.set(1, 1, 1), 1);
    }

    /** "fee's first number times its weight, and the second one if it has a FIRE; paid each time." */
    private static void leastAndMostFees() {
        int[][] rows = {{0, 0, 50}, {0, 99, 50}, {99, 0, 50}, {99, 99, 50}, {1, 1, 1}, {99, 99, 1}};
        for (int[] row : rows) {
            IceFair fair = Check.fairOn(3, 3, 99, 99, "fee " + row[0] + " " + row[1] + ";");
            fair.booth(row[2], false, 0);
            fair.booth(row[2], true, 0);
            int without = row[0] * row[2];
            int with = without + row[1];
            Check.due("without a FIRE", fair.set(0, 0, 0), without);
            Check.due("with a FIRE", fair.set(1, 2, 2), with);
            Check.due("FEES", fair.count(5), without + with);
            fair.clear(0);
            fair.clear(1);
            Check.due("laid", fair.lay(), 2);
            Check.due("FEES, paid again", fair.count(5), 2 * (without + with));
        }
    }

    /** "IndexOutOfBoundsException .. likewise": no such BOOTH, whatever the what. */
    private static void looksOfNoSuchBooth() {
        IceFair fair = Check.fairOn(3, 3, 50, 50, "");
        Check.dueText("look(0, 0) of no booths", Check.look(fair, 0, 0), Check.INDEX);
        fair.booth(1, false, 0);
        fair.booth(1, false, 0);
        for (int number : NO_NUMBERS) {
            for (int what : new int[] {-1, 0, 4, 5}) {
                Check.dueText("look(" + number + ", " + what + ")", Check.look(fair, number, what), Check.INDEX);
            }
        }
        Check.dueText("look(1, 0)", Check.look(fair, 1, 0), "0");
        for (int i = 2; i < 10; i++) {
            fair.booth(1, false, 0);
        }
        Check.dueText("look(9, 0) of ten", Check.look(fair, 9, 0), "0");
        Check.dueText("look(10, 0) of ten", Check.look(fair, 10, 0), Check.INDEX);
    }

    private static void looksOfNoSuchWhat() {
        IceFair fair = Check.fairOn(3, 3, 50, 50, "");
        fair.booth(1, false, 0);
        for (int what : new int[] {-1, 5, 6, 256, LEAST, MOST}) {
            Check.dueText("look(0, " + what + ")", Check.look(fair, 0, what), Check.ELEMENT);
        }
        Check.dueText("look(0, 4)", Check.look(fair, 0, 4), "-1");
    }

    /** "Who has to MOVE: SET ones with a CRACK nearer than near." */
    private static void whoHasToMoveAtTheBoundary() {
        for (int near = 0; near <= 4; near++) {
            IceFair fair = Check.fairOn(6, 6, 90, 90, "");
            fair.booth(1, false, 0);
            fair.booth(1, false, 0);
            Check.crack(fair, 5, 5, 90, 90);
            Check.due("customs", Check.customs(fair, "near 0;"), 1);
            for (int far = 1; far <= 5; far++) {
                fair.set(0, 5 - far, 5);
                fair.set(1, 5, 5 - far);
                Check.due("customs", Check.customs(fair, "near " + near + ";"), 1);
                String due = far < near ? "1" : "0";
                Check.dueText("near " + near + ", " + far + " off in x", Check.look(fair, 0, 3), due);
                Check.dueText("near " + near + ", " + far + " off in y", Check.look(fair, 1, 3), due);
                Check.due("who has to MOVE", fair.count(8), far < near ? 2 : 0);
                Check.due("customs", Check.customs(fair, "near 0;"), 1);
                fair.clear(0);
                fair.clear(1);
                Check.due("who WAITS has not to MOVE", fair.count(8), 0);
            }
        }
    }

    /** "NONE: it isn't SET, or none is come to". */
    private static void stepsAtTheBoundary() {
        IceFair fair = Check.fairOn(3, 3, 50, 50, "stair 0 0 1;stair 2 2 1;");
        fair.booth(1, false, 0);
        Check.dueText("it WAITS", Check.look(fair, 0, 4), "-1");
        String[] due = {"0", "1", "2", "1", "2", "1", "2", "1", "0"};
        for (int at = 0; at < 9; at++) {
            fair.set(0, at % 3, at / 3);
            Check.dueText("from " + at % 3 + ", " + at / 3, Check.look(fair, 0, 4), due[at]);
            fair.clear(0);
        }
        fair.set(0, 0, 0);
        fair.sound(0, 1, 1, 1, 0, 50);
        fair.sound(1, 0, 1, 0, 0, 50);
        Check.dueText("at a stair, no way from it", Check.look(fair, 0, 4), "0");
        fair.sound(0, 0, 0, 0, 0, 50);
        Check.dueText("its own is none, no way to another", Check.look(fair, 0, 4), "-1");
        fair.sound(1, 0, 1, 0, 1, 50);
        Check.dueText("a step, and then none", Check.look(fair, 0, 4), "4");
        fair.sound(2, 0, 2, 0, 0, 50);
        Check.dueText("no way again", Check.look(fair, 0, 4), "-1");
    }

    /** "NONE for another what." */
    private static void countsOfNoSuchWhat() {
        IceFair fair = Check.fairOn(3, 3, 50, 50, "");
        for (int what : new int[] {-1, 9, 10, 256, LEAST, MOST}) {
            Check.due("count(" + what + ")", fair.count(what), NONE);
        }
        Check.due("count(8)", fair.count(8), 0);
        Check.due("count(0)", fair.count(0), 0);
    }

    private static void countsFromNoneToAll() {
        IceFair fair = Check.fairOn(10, 10, 50, 50,
            "near 4;stair 0 0 1;stair 9 9 1;stair 0 9 1;stair 9 0 1;");
        for (int i = 0; i < 10; i++) {
            Check.due("SET", fair.count(1), i);
            fair.booth(1, false, 0);
            fair.set(i, i, 4);
        }
        int[] due = {10, 10, 0, 0, 0, 10, 0, 4, 0};
        for (int what = 0; what < due.length; what++) {
            Check.due("count(" + what + ")", fair.count(what), due[what]);
        }
        fair.sound(0, 2, 9, 2, 0, 0);
        fair.hour(0);
        Check.due("a row of CRACKS", fair.count(3), 10);
        Check.due("all have to MOVE", fair.count(8), 10);
        fair.sound(0, 0, 9, 9, 0, 0);
        Check.due("all sink", fair.hour(0), 10);
        int[] after = {10, 0, 10, 100, 2, 10, 0, 4, 0};
        for (int what = 0; what < after.length; what++) {
            Check.due("count(" + what + ") when all are SUNK", fair.count(what), after[what]);
        }
    }
}
