/** Promises 12 and 13: how soon all can be off, the proof, and the steps of promise 15. */
public final class OffTest {
    public static void main(String[] args) {
        withoutCrowds();
        oneBoothAtOneStair();
        stairsThatAreNoneHere();
        stepsGoRound();
        fromHisOwnCellWhateverItIs();
        twoBoothsShareAStair();
        theLeastSetOfMany();
        waitingCrowdsDoNotGo();
        theMostMinutes();
        Check.end();
    }

    private static void withoutCrowds() {
        IceFair fair = Check.fairOn(5, 5, 50, 50, "");
        fair.booth(1, false, 0);
        fair.set(0, 0, 0);
        Check.due("soon() of an empty booth, no stairs", fair.soon(), 0);
        Check.due("proof()", fair.proof(), IceFair.NONE);
        fair.booth(1, false, 1);
        fair.set(1, 4, 4);
        Check.due("soon() without stairs", fair.soon(), IceFair.NONE);
        Check.due("proof()", fair.proof(), IceFair.NONE);
        Check.dueText("steps", Check.look(fair, 1, 4), "-1");
    }

    private static void oneBoothAtOneStair() {
        IceFair fair = Check.fairOn(5, 5, 50, 50, "stair 0 0 3;");
        fair.booth(1, false, 7);
        int[][] due = {{0, 0, 0, 3}, {1, 0, 1, 4}, {4, 4, 8, 11}};
        for (int[] row : due) {
            fair.set(0, row[0], row[1]);
            Check.dueText("steps", Check.look(fair, 0, 4), String.valueOf(row[2]));
            Check.due("soon()", fair.soon(), row[3]);
            Check.due("proof()", fair.proof(), 1);
            fair.clear(0);
        }
        fair.booth(1, false, 3);
        fair.set(1, 0, 0);
        Check.due("in the first minute", fair.soon(), 1);
        Check.due("proof(), no minute is less", fair.proof(), 2);
    }

    private static void stairsThatAreNoneHere() {
        IceFair fair = Check.fairOn(5, 5, 50, 50, "stair 5 0 9;stair 0 5 9;stair 4 4 1;");
        fair.booth(1, false, 1);
        fair.set(0, 4, 0);
        Check.due("stairs", fair.count(7), 3);
        Check.dueText("steps to the one on the ICE", Check.look(fair, 0, 4), "4");
        Check.due("soon()", fair.soon(), 5);
        fair.sound(4, 4, 4, 4, 0, 9);
        Check.dueText("its LOW is 0", Check.look(fair, 0, 4), "-1");
        Check.due("soon()", fair.soon(), IceFair.NONE);
        fair.sound(4, 4, 4, 4, 0, 0);
        fair.hour(0);
        fair.sound(4, 4, 4, 4, 50, 50);
        Check.dueText("it is a CRACK", Check.look(fair, 0, 4), "-1");
        Check.due("soon()", fair.soon(), IceFair.NONE);
        Check.due("proof()", fair.proof(), IceFair.NONE);
    }

    private static void stepsGoRound() {
        IceFair fair = Check.fairOn(5, 5, 50, 50, "stair 4 0 1;");
        fair.booth(1, false, 2);
        fair.booth(1, false, 0);
        fair.set(0, 0, 0);
        fair.set(1, 1, 2);
        Check.dueText("straight", Check.look(fair, 0, 4), "4");
        fair.sound(2, 0, 2, 3, 0, 9);
        Check.dueText("round", Check.look(fair, 0, 4), "12");
        Check.due("soon()", fair.soon(), 14);
        fair.sound(2, 4, 2, 4, 0, 9);
        Check.dueText("no way", Check.look(fair, 0, 4), "-1");
        Check.due("soon()", fair.soon(), IceFair.NONE);
        fair.sound(2, 2, 2, 2, 50, 50);
        Check.dueText("over the cell of a booth, and across none", Check.look(fair, 0, 4), "8");
    }

    private static void fromHisOwnCellWhateverItIs() {
        IceFair fair = Check.fairOn(5, 5, 50, 50, "stair 0 0 1;stair 4 4 1;");
        fair.booth(1, false, 1);
        fair.booth(1, false, 1);
        fair.set(0, 1, 0);
        fair.set(1, 2, 0);
        fair.sound(1, 0, 1, 0, 0, 50);
        Check.dueText("from LOW 0", Check.look(fair, 0, 4), "1");
        Check.dueText("not over LOW 0", Check.look(fair, 1, 4), "4");
        fair.sound(1, 0, 1, 0, 50, 50);
        fair.clear(0);
        fair.set(0, 0, 0);
        fair.sound(0, 0, 0, 0, 0, 50);
        Check.dueText("his own stair is none", Check.look(fair, 0, 4), "8");
    }

    private static void twoBoothsShareAStair() {
        IceFair fair = Check.fairOn(10, 3, 50, 50, "stair 0 0 1;");
        fair.booth(1, false, 2);
        fair.booth(1, false, 2);
        fair.set(0, 1, 0);
        fair.set(1, 3, 0);
        Check.due("one behind the other", fair.soon(), 5);
        Check.due("proof(), all or those who are last", fair.proof(), 2);
        fair.clear(1);
        fair.set(1, 2, 0);
        Check.due("a crowd at the stair", fair.soon(), 5);
        Check.due("proof(), both", fair.proof(), 3);
    }

    private static void theLeastSetOfMany() {
        IceFair fair = Check.fairOn(10, 10, 90, 90, "stair 0 0 1;stair 9 9 1;");
        fair.booth(1, false, 0);
        fair.booth(1, false, 5);
        fair.booth(1, false, 5);
        fair.set(0, 4, 4);
        fair.set(1, 0, 1);
        fair.set(2, 9, 8);
        Check.due("soon()", fair.soon(), 6);
        Check.due("proof(), the lesser of two", fair.proof(), 2);
        fair.clear(1);
        fair.set(1, 0, 0);
        Check.due("soon()", fair.soon(), 6);
        Check.due("proof(), the other alone", fair.proof(), 4);
    }

    private static void waitingCrowdsDoNotGo() {
        IceFair fair = Check.fairOn(5, 5, 50, 50, "stair 0 0 1;");
        fair.booth(1, false, 99);
        fair.booth(1, false, 1);
        fair.booth(1, false, 50);
        fair.set(1, 0, 1);
        fair.set(2, 4, 4);
        fair.sound(4, 4, 4, 4, 0, 0);
        fair.hour(0);
        Check.due("2 is SUNK", fair.count(2), 1);
        Check.due("soon()", fair.soon(), 2);
        Check.due("proof()", fair.proof(), 2);
    }

    private static void theMostMinutes() {
        IceFair fair = Check.fairOn(10, 10, 99, 99, "stair 9 9 1;bear 999;");
        for (int i = 0; i < 10; i++) {
            fair.booth(1, false, 99);
            fair.set(i, i, 0);
        }
        Check.due("soon()", fair.soon(), 990 + 9);
        Check.due("proof()", fair.proof(), 1023);
    }
}
