/** The boundary cases of the way off: promises 12 and 13, the steps of 15 and their words in 'Terms'. */
public final class OffEdgesTest {
    private static final int NONE = IceFair.NONE;

    public static void main(String[] args) {
        zeroWithoutAnyCrowd();
        noneWhenSomebodyCannotCome();
        asManyAsAStairLetsOff();
        inTheMinuteBehindTheSteps();
        aStairAsFarAsTheOthersNeed();
        fourStairs();
        stairsOnAndOffTheIce();
        stairCellsThatAreNone();
        lowOfOneIsWalkedOn();
        cracksAreNotWalkedOn();
        noStepAcross();
        noStepRoundTheEdge();
        fromHisOwnCellInEachDirection();
        overOtherBooths();
        theLongestWay();
        theMostMen();
        onlyStairsOfTheseCustoms();
        onlyCrowdsThatAreSet();
        proofNeedsMoreThanIsLetOff();
        proofOfTheFirstMinute();
        proofIsTheLeastNumber();
        proofOfEachBoothAlone();
        proofByTheFirstOfTheSet();
        Check.end();
    }

    private static void add(IceFair fair, int x, int y, int crowd) {
        int number = fair.booth(1, false, crowd);
        Check.due("set", fair.set(number, x, y), 1);
    }

    private static void dueOff(String of, IceFair fair, int soon, int proof) {
        Check.due("soon() of " + of, fair.soon(), soon);
        Check.due("proof() of " + of, fair.proof(), proof);
    }

    /** "0 without any crowd.", "NONE: SOON is NONE, or 0." */
    private static void zeroWithoutAnyCrowd() {
        for (String text : new String[] {"", "stair 0 0 1;", "stair 9 9 1;"}) {
            IceFair fair = Check.fairOn(5, 5, 50, 50, text);
            dueOff("no booths", fair, 0, NONE);
            add(fair, 1, 1, 0);
            dueOff("a crowd of 0", fair, 0, NONE);
            fair.booth(1, false, 9);
            dueOff("a crowd that WAITS", fair, 0, NONE);
        }
        IceFair fair = Check.fairOn(5, 5, 50, 50, "stair 0 0 1;");
        add(fair, 1, 1, 0);
        add(fair, 0, 0, 1);
        dueOff("a crowd of 1", fair, 1, 2);
    }

    /** "NONE: somebody can't come to a stair." */
    private static void noneWhenSomebodyCannotCome() {
        IceFair fair = Check.fairOn(5, 3, 50, 50, "stair 0 0 9;");
        add(fair, 0, 0, 5);
        add(fair, 4, 0, 1);
        dueOff("all can come", fair, 5, 2);
        fair.sound(2, 0, 2, 2, 0, 50);
        dueOff("one can't", fair, NONE, NONE);
        Check.dueText("the other can", Check.look(fair, 0, 4), "0");
        fair.clear(1);
        dueOff("who can't WAITS", fair, 1, 1);
        add(fair, 4, 2, 0);
        dueOff("an empty BOOTH can't", fair, 1, 1);
        Check.dueText("it can't", Check.look(fair, 2, 4), "-1");
        Check.due("customs", Check.customs(fair, "stair 9 9 9;stair 4 0 9;stair 3 9 9;stair 0 0 9;"), 4);
        fair.set(1, 4, 0);
        dueOff("each at another stair", fair, 1, 1);
        fair.sound(4, 0, 4, 0, 0, 50);
        dueOff("its stair is none", fair, NONE, NONE);
    }

    /** "each stair lets N men off in each minute", N 1 .. 9. */
    private static void asManyAsAStairLetsOff() {
        for (int men = 1; men <= 9; men++) {
            for (int crowd = 1; crowd <= 99; crowd++) {
                IceFair fair = Check.fairOn(3, 3, 50, 50, "stair 1 1 " + men + ";");
                add(fair, 1, 1, crowd);
                dueOff(crowd + " by " + men, fair, (crowd + men - 1) / men, 1);
            }
        }
    }

    /** "One who is d steps from a stair can go off there in the (d + 1)th minute, or later." */
    private static void inTheMinuteBehindTheSteps() {
        IceFair fair = Check.fairOn(10, 10, 50, 50, "stair 0 0 2;");
        fair.booth(1, false, 1);
        fair.booth(1, false, 2);
        fair.booth(1, false, 3);
        for (int far = 0; far <= 9; far++) {
            for (int booth = 0; booth < 3; booth++) {
                Check.due("set", fair.set(booth, far, far), 1);
                Check.dueText("steps", Check.look(fair, booth, 4), String.valueOf(2 * far));
                dueOff("one " + 2 * far + " off", fair, 2 * far + (booth < 2 ? 1 : 2), 1 << booth);
                fair.clear(booth);
            }
        }
    }

    private static void aStairAsFarAsTheOthersNeed() {
        // One a minute at his own cell, and one a minute four steps off, from the fifth minute on.
        int[] due = {0, 1, 2, 3, 4, 5, 5, 6, 6, 7, 7};
        for (int crowd = 1; crowd <= 10; crowd++) {
            IceFair fair = Check.fairOn(5, 3, 50, 50, "stair 0 0 1;stair 4 0 1;");
            add(fair, 0, 0, crowd);
            dueOff(crowd + " and a stair four off", fair, due[crowd], 1);
        }
    }

    /** "At most 4 stairs". */
    private static void fourStairs() {
        IceFair fair = Check.fairOn(3, 3, 50, 50, "stair 1 0 1;stair 0 1 2;stair 2 1 3;stair 1 2 4;");
        int[][] rows = {{1, 2}, {10, 2}, {11, 3}, {20, 3}, {21, 4}, {30, 4}, {31, 5}};
        for (int i = 0; i < rows.length; i++) {
            add(fair, 1, 1, rows[i][0]);
            dueOff(rows[i][0] + " of them", fair, rows[i][1], 1 << i);
            fair.clear(i);
        }
    }

    /** "a stair's cell has to be such a one on the ICE". */
    private static void stairsOnAndOffTheIce() {
        int[][] sizes = {{3, 3}, {3, 10}, {10, 3}, {9, 10}, {10, 9}, {10, 10}};
        for (int[] size : sizes) {
            int w = size[0];
            int h = size[1];
            int[][] stairs = {{w - 1, h - 1}, {w, h - 1}, {w - 1, h}, {0, h}, {w, 0}};
            for (int[] stair : stairs) {
                if (stair[0] <= 9 && stair[1] <= 9) {
                    IceFair fair = Check.fairOn(w, h, 50, 50, "stair " + stair[0] + " " + stair[1] + " 1;");
                    add(fair, w - 1, h - 1, 1);
                    boolean there = stair[0] < w && stair[1] < h;
                    dueOff("a stair at " + stair[0] + ", " + stair[1], fair, there ? 1 : NONE, there ? 1 : NONE);
                    Check.dueText("steps", Check.look(fair, 0, 4), there ? "0" : "-1");
                    Check.due("it is a stair", fair.count(7), 1);
                }
            }
        }
        IceFair fair = Check.fairOn(3, 3, 50, 50, "stair 3 3 1;");
        add(fair, 2, 2, 1);
        dueOff("a stair beyond", fair, NONE, NONE);
        fair.ice(4, 4);
        fair.sound(0, 0, 3, 3, 50, 50);
        add(fair, 2, 2, 1);
        dueOff("the same on larger ICE", fair, 3, 1);
    }

    private static void stairCellsThatAreNone() {
        IceFair fair = Check.fairOn(3, 3, 50, 50, "stair 2 2 1;heal 50;near 0;");
        add(fair, 0, 0, 1);
        fair.sound(2, 2, 2, 2, 0, 50);
        dueOff("a stair of LOW 0", fair, NONE, NONE);
        fair.sound(2, 2, 2, 2, 1, 50);
        dueOff("a stair of LOW 1", fair, 5, 1);
        Check.crack(fair, 2, 2, 50, 50);
        dueOff("a stair that is a CRACK", fair, NONE, NONE);
        fair.hour(0);
        dueOff("a stair that is healed", fair, 5, 1);
        fair.clear(0);
        fair.set(0, 2, 2);
        fair.sound(2, 2, 2, 2, 0, 50);
        dueOff("at his own cell a stair of LOW 0", fair, NONE, NONE);
        fair.sound(2, 2, 2, 2, 1, 50);
        dueOff("at his own cell a stair of LOW 1", fair, 1, 1);
    }

    /** "to a cell beside that is no CRACK with a LOW above 0". */
    private static void lowOfOneIsWalkedOn() {
        IceFair fair = Check.fairOn(5, 3, 50, 50, "stair 4 0 1;");
        add(fair, 0, 0, 1);
        fair.sound(2, 0, 2, 2, 1, 50);
        dueOff("LOW 1 on the way", fair, 5, 1);
        fair.sound(2, 0, 2, 0, 0, 50);
        dueOff("LOW 0 on the way, one row down", fair, 7, 1);
        fair.sound(2, 1, 2, 1, 0, 50);
        dueOff("LOW 0 on the way, two rows down", fair, 9, 1);
        fair.sound(2, 2, 2, 2, 0, 50);
        dueOff("LOW 0 all along", fair, NONE, NONE);
    }

    private static void cracksAreNotWalkedOn() {
        IceFair fair = Check.fairOn(5, 3, 50, 50, "stair 4 0 1;near 0;");
        add(fair, 0, 0, 1);
        Check.crack(fair, 2, 0, 50, 50);
        dueOff("a CRACK on the way, one row down", fair, 7, 1);
        Check.crack(fair, 2, 1, 50, 50);
        dueOff("a CRACK on the way, two rows down", fair, 9, 1);
        Check.crack(fair, 2, 2, 50, 50);
        dueOff("CRACKS all along", fair, NONE, NONE);
        Check.dueText("steps", Check.look(fair, 0, 4), "-1");
    }

    private static void noStepAcross() {
        IceFair fair = Check.fairOn(3, 3, 50, 50, "stair 2 2 1;");
        add(fair, 0, 0, 1);
        fair.sound(1, 0, 1, 0, 0, 50);
        dueOff("one way", fair, 5, 1);
        fair.sound(0, 1, 0, 1, 0, 50);
        dueOff("only across", fair, NONE, NONE);
    }

    private static void noStepRoundTheEdge() {
        // The last of a row and the first of the next are not beside one another, nor are the ends of a column.
        int[][] pairs = {{9, 0, 0, 1}, {0, 1, 9, 0}, {9, 0, 0, 0}, {0, 0, 9, 0}, {0, 2, 0, 0}, {5, 0, 5, 2}};
        for (int[] pair : pairs) {
            IceFair fair = Check.fairOn(10, 3, 50, 50, "stair " + pair[2] + " " + pair[3] + " 1;");
            add(fair, pair[0], pair[1], 1);
            fair.sound(0, 0, 9, 2, 0, 50);
            fair.sound(pair[0], pair[1], pair[0], pair[1], 50, 50);
            fair.sound(pair[2], pair[3], pair[2], pair[3], 50, 50);
            dueOff("round the edge", fair, NONE, NONE);
        }
    }

    /** "from his own, whatever it is". */
    private static void fromHisOwnCellInEachDirection() {
        int[][] ways = {{1, 0}, {0, 1}, {2, 1}, {1, 2}};
        for (int[] way : ways) {
            IceFair fair = Check.fairOn(3, 3, 50, 50, "stair " + way[0] + " " + way[1] + " 1;");
            add(fair, 1, 1, 2);
            fair.sound(0, 0, 2, 2, 0, 50);
            Check.dueText("LOW 0 all over", Check.look(fair, 0, 4), "-1");
            fair.sound(way[0], way[1], way[0], way[1], 1, 50);
            Check.dueText("one cell beside", Check.look(fair, 0, 4), "1");
            dueOff("one cell beside", fair, 3, 1);
            for (int[] other : ways) {
                fair.sound(other[0], other[1], other[0], other[1], 1, 50);
            }
            Check.dueText("all cells beside", Check.look(fair, 0, 4), "1");
        }
        // Each way the stair is two steps off, or further by the other three cells beside.
        int[][] stairs = {{2, 0}, {0, 2}, {4, 2}, {2, 4}};
        for (int[] stair : stairs) {
            IceFair fair = Check.fairOn(5, 5, 50, 50, "stair " + stair[0] + " " + stair[1] + " 1;");
            add(fair, 2, 2, 1);
            fair.sound(2, 2, 2, 2, 0, 50);
            Check.dueText("straight", Check.look(fair, 0, 4), "2");
            int x = (stair[0] + 2) / 2;
            int y = (stair[1] + 2) / 2;
            fair.sound(x, y, x, y, 0, 50);
            Check.dueText("round", Check.look(fair, 0, 4), "4");
        }
    }

    /** "(they may stand on one another's". */
    private static void overOtherBooths() {
        IceFair fair = Check.fairOn(5, 3, 50, 50, "stair 4 0 1;");
        fair.sound(0, 1, 4, 2, 1, 50);
        fair.sound(0, 2, 4, 2, 0, 50);
        Check.due("customs", Check.customs(fair, "stair 4 0 1;bear 999;"), 2);
        add(fair, 0, 0, 1);
        add(fair, 2, 0, 1);
        fair.sound(0, 1, 4, 1, 0, 50);
        Check.dueText("over another's cell", Check.look(fair, 0, 4), "4");
        Check.dueText("the other's", Check.look(fair, 1, 4), "2");
        dueOff("both", fair, 5, 1);
        fair.sound(2, 0, 2, 0, 0, 50);
        Check.dueText("not over another's of LOW 0", Check.look(fair, 0, 4), "-1");
        Check.dueText("but the other from it", Check.look(fair, 1, 4), "2");
    }

    private static void theLongestWay() {
        IceFair fair = Check.fairOn(10, 10, 50, 50, "stair 9 9 1;");
        add(fair, 0, 0, 99);
        for (int y = 1; y < 10; y += 2) {
            fair.sound(y % 4 == 1 ? 0 : 1, y, y % 4 == 1 ? 8 : 9, y, 0, 50);
        }
        Check.dueText("steps", Check.look(fair, 0, 4), "54");
        dueOff("the longest way", fair, 54 + 99, 1);
    }

    private static void theMostMen() {
        IceFair fair = Check.fairOn(10, 10, 99, 99, "stair 9 9 1;");
        for (int i = 0; i < 10; i++) {
            add(fair, i, 0, 99);
        }
        for (int y = 1; y < 10; y += 2) {
            fair.sound(y % 4 == 1 ? 0 : 1, y, y % 4 == 1 ? 8 : 9, y, 0, 50);
        }
        dueOff("990 men", fair, 990 + 45, 1023);
        Check.due("customs", Check.customs(fair, "stair 9 9 9;"), 1);
        // The nearest is off from minute 46 on, and the 990 take 110 minutes of 9 men.
        dueOff("990 men by 9", fair, 110 + 45, 1023);
    }

    private static void onlyStairsOfTheseCustoms() {
        IceFair fair = Check.fairOn(5, 5, 50, 50, "stair 0 0 9;stair 1 0 9;stair 2 0 9;stair 4 4 1;");
        add(fair, 0, 0, 9);
        dueOff("four stairs", fair, 1, 1);
        Check.due("customs", Check.customs(fair, "stair 4 4 1;"), 1);
        dueOff("one stair", fair, 17, 1);
        Check.dueText("steps", Check.look(fair, 0, 4), "8");
        Check.due("customs", Check.customs(fair, "stair 4 4 1;stair 0 0 9;stair 0 0 9;"), NONE);
        dueOff("one stair, there was a FAULT", fair, 17, 1);
        Check.due("customs(0)", fair.customs(0), 0);
        dueOff("no stairs", fair, NONE, NONE);
        Check.dueText("steps", Check.look(fair, 0, 4), "-1");
    }

    /** "crowds of all SET BOOTHS go to the stairs". */
    private static void onlyCrowdsThatAreSet() {
        IceFair fair = Check.fairOn(5, 5, 50, 50, "stair 0 0 1;near 0;");
        add(fair, 0, 1, 3);
        add(fair, 4, 4, 5);
        add(fair, 1, 0, 3);
        dueOff("three", fair, 13, 2);
        fair.sound(4, 4, 4, 4, 0, 0);
        Check.due("1 sinks", fair.hour(0), 1);
        dueOff("1 is SUNK", fair, 7, 5);
        fair.clear(0);
        dueOff("0 WAITS", fair, 4, 4);
        fair.clear(2);
        dueOff("all gone", fair, 0, NONE);
    }

    /** "whose crowds are more than all stairs let off in one minute less": as many is no proof. */
    private static void proofNeedsMoreThanIsLetOff() {
        // In four minutes the stair lets off four of each set that has one at it.
        IceFair fair = Check.fairOn(5, 5, 50, 50, "stair 0 0 1;");
        add(fair, 0, 0, 4);
        dueOff("four", fair, 4, 1);
        add(fair, 1, 0, 1);
        dueOff("four and one", fair, 5, 3);
        fair.clear(1);
        int last = fair.booth(1, false, 1);
        fair.set(last, 4, 0);
        dueOff("four, and one that comes in minute 5", fair, 5, 4);
        fair.clear(last);
        fair.set(1, 0, 1);
        fair.set(last, 2, 0);
        dueOff("four and one and one", fair, 6, 7);
    }

    private static void proofOfTheFirstMinute() {
        IceFair fair = Check.fairOn(5, 5, 50, 50, "stair 0 0 9;stair 4 4 9;");
        add(fair, 2, 2, 0);
        add(fair, 4, 4, 9);
        add(fair, 0, 0, 9);
        dueOff("no minute is less than the first", fair, 1, 2);
        fair.clear(1);
        dueOff("the other", fair, 1, 4);
    }

    /** "the least number (bits)": a greater set of lesser numbers comes before a BOOTH alone. */
    private static void proofIsTheLeastNumber() {
        IceFair fair = Check.fairOn(7, 3, 50, 50, "stair 0 0 1;stair 6 0 1;");
        add(fair, 0, 1, 2);
        add(fair, 1, 0, 2);
        add(fair, 6, 1, 4);
        fair.sound(3, 0, 3, 2, 0, 50);
        dueOff("0 and 1 at one stair, 2 at another", fair, 5, 3);
        fair.clear(0);
        dueOff("2 alone", fair, 5, 4);
    }

    private static void proofOfEachBoothAlone() {
        for (int late = 0; late < 10; late++) {
            IceFair fair = Check.fairOn(10, 10, 50, 50, "stair 0 0 9;stair 9 9 9;");
            for (int i = 0; i < 10; i++) {
                add(fair, i, i == late ? 9 - i : i < 5 ? 0 : 9, 1);
            }
            // Who is late has nine steps to each stair, the others four at most.
            dueOff(late + " is late", fair, 10, 1 << late);
        }
    }

    /** "for each minute from that on in which the first of the set can be there". */
    private static void proofByTheFirstOfTheSet() {
        // 0 can be off from minute 1 on, 1 from minute 4 on: together they have what the first has.
        IceFair fair = Check.fairOn(5, 3, 50, 50, "stair 0 0 1;");
        add(fair, 0, 0, 3);
        add(fair, 3, 0, 3);
        dueOff("1 alone needs 6, both need 6", fair, 6, 2);
        fair.clear(0);
        int more = fair.booth(1, false, 4);
        fair.set(more, 0, 0);
        dueOff("1 alone needs 6, both need 7", fair, 7, 6);
    }
}
