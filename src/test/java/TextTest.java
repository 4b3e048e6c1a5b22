/** Promises 2, 3 and 4: the tape, the customs and their faults. */
public final class TextTest {
    public static void main(String[] args) {
        feedKeepsFourHundred();
        feedTakesTheHighestByteFirst();
        customsTakeFromTheTape();
        customsReplaceTheEarlierOnes();
        aFaultLeavesTheEarlierOnes();
        textsWithoutFault();
        tokensThatCannotStand();
        numbersBeyond();
        linesToldAlready();
        theFirstFaultAlongTheText();
        faultOfTheLatest();
        Check.end();
    }

    private static void feedKeepsFourHundred() {
        IceFair fair = new IceFair();
        for (int i = 1; i <= 20; i++) {
            Check.due("feed " + i, fair.feed(0x20202020, 0x20202020, 0x20202020, 0x20202020, 0x20202020), 20 * i);
        }
        Check.due("feed 21", fair.feed(1, 2, 3, 4, 5), IceFair.NONE);
        Check.due("customs(401)", fair.customs(401), -2);
        Check.due("customs(400)", fair.customs(400), 0);
        Check.due("feed anew", fair.feed(0, 0, 0, 0, 0), 20);
    }

    private static void feedTakesTheHighestByteFirst() {
        IceFair fair = new IceFair();
        fair.feed(0x20200A20, 0x20202020, 0xFF202020, 0x20202020, 0x20202020);
        Check.due("customs(20)", fair.customs(20), IceFair.NONE);
        Check.due("fault(0)", fair.fault(0), 1);
        Check.due("fault(1)", fair.fault(1), 8);
        fair.feed(0x20202020, 0x20202020, 0x20202020, 0x20202020, 0x20202080);
        Check.due("customs(20)", fair.customs(20), IceFair.NONE);
        Check.due("fault(1)", fair.fault(1), 19);
        fair.feed(0x6E656172, 0x20333B00, 0, 0, 0);
        Check.due("customs(7) of near 3;", fair.customs(7), 1);
    }

    private static void customsTakeFromTheTape() {
        IceFair fair = new IceFair();
        Check.due("customs(1) of an empty tape", fair.customs(1), -2);
        Check.due("customs(-1)", fair.customs(-1), -2);
        Check.due("customs(least int)", fair.customs(Integer.MIN_VALUE), -2);
        Check.due("customs(most int)", fair.customs(Integer.MAX_VALUE), -2);
        Check.feedText(fair, "bear 5;");
        Check.due("customs(21)", fair.customs(21), -2);
        Check.due("customs(-1)", fair.customs(-1), -2);
        Check.due("customs(7), the tape stayed", fair.customs(7), 1);
        Check.due("customs(1), the rest is gone", fair.customs(1), -2);
        Check.feedText(fair, "bear 5;");
        Check.due("customs(6)", fair.customs(6), IceFair.NONE);
        Check.due("customs(1), gone with a fault too", fair.customs(1), -2);
        Check.due("customs(0)", fair.customs(0), 0);
    }

    private static void customsReplaceTheEarlierOnes() {
        IceFair fair = Check.fairOn(5, 5, 10, 20, "bear 200;stair 0 0 1;stair 1 1 2;");
        Check.dueText("bearing by 200", Check.cell(fair, 0, 0, 4), "200");
        Check.due("stairs", fair.count(7), 2);
        Check.due("customs", Check.customs(fair, "stair 4 4 4;"), 1);
        Check.dueText("bearing as usual", Check.cell(fair, 0, 0, 4), "100");
        Check.due("stairs", fair.count(7), 1);
        Check.due("customs(0)", fair.customs(0), 0);
        Check.due("stairs", fair.count(7), 0);
    }

    private static void aFaultLeavesTheEarlierOnes() {
        IceFair fair = Check.fairOn(5, 5, 10, 20, "bear 200;stair 0 0 1;");
        Check.due("customs", Check.customs(fair, "bear 300;stair 1 1 1;stair 2 2 2;near"), IceFair.NONE);
        Check.dueText("bearing by 200", Check.cell(fair, 0, 0, 4), "200");
        Check.due("stairs", fair.count(7), 1);
    }

    private static void textsWithoutFault() {
        Check.dueLines("", 0);
        Check.dueLines(" \n ", 0);
        Check.dueLines("bear 1;", 1);
        Check.dueLines("bear 999 ; ", 1);
        Check.dueLines("\nbear\n1\n;\n", 1);
        Check.dueLines("bear5;melt0 9;", 2);
        Check.dueLines("bear 000000000000000000001;", 1);
        Check.dueLines("melt 0 0;apart 0;near 0;heal 1;fee 0 0;", 5);
        Check.dueLines("melt 9 9;apart 9;near 4;heal 99;fee 99 99;bear 999;", 6);
        Check.dueLines("stair 0 0 1;stair 9 9 9;stair 0 9 1;stair 9 0 1;", 4);
        Check.dueLines("fee 1 1;heal 1;near 1;apart 1;melt 1 1;bear 1;"
            + "stair 1 1 1;stair 2 1 1;stair 1 2 1;stair 2 2 1;", 10);
    }

    private static void tokensThatCannotStand() {
        Check.dueFault(";", 1, 0);
        Check.dueFault("x", 1, 0);
        Check.dueFault("bears 1;", 1, 0);
        Check.dueFault("bea 1;", 1, 0);
        Check.dueFault("bearz 1;", 1, 0);
        Check.dueFault("beara 1;", 1, 0);
        Check.dueFault("bear{1;", 1, 4);
        Check.dueFault("bear`1;", 1, 4);
        Check.dueFault("bear/1;", 1, 4);
        Check.dueFault("bear:1;", 1, 4);
        Check.dueFault("Bear 1;", 1, 0);
        Check.dueFault("bEar 1;", 1, 0);
        Check.dueFault("bear 1;;", 1, 7);
        Check.dueFault(" 5;", 1, 1);
        Check.dueFault("bear", 1, 4);
        Check.dueFault("bear  ", 1, 6);
        Check.dueFault("bear ;", 1, 5);
        Check.dueFault("bear bear;", 1, 5);
        Check.dueFault("bear -1;", 1, 5);
        Check.dueFault("bear\t1;", 1, 4);
        Check.dueFault("bear\r1;", 1, 4);
        Check.dueFault("bear 1", 1, 6);
        Check.dueFault("bear 1 1;", 1, 7);
        Check.dueFault("bear 1 1000;", 1, 7);
        Check.dueFault("bear 1x;", 1, 6);
        Check.dueFault("bear 1,", 1, 6);
        Check.dueFault("melt 1;", 1, 6);
        Check.dueFault("fee 1 2 3;", 1, 8);
        Check.dueFault("stair 1 2;", 1, 9);
        Check.dueFault("stair 1 2 3 4;", 1, 12);
        Check.dueFault("near 1;" + (char) 233, 1, 7);
        Check.dueFault("near 1;\0", 1, 7);
    }

    private static void numbersBeyond() {
        Check.dueFault("bear 0;", 2, 5);
        Check.dueFault("bear 1000;", 2, 5);
        Check.dueFault("bear 4294967297;", 2, 5);
        Check.dueFault("bear 18446744073709551617;", 2, 5);
        Check.dueFault("melt 10 0;", 2, 5);
        Check.dueFault("melt 0 10;", 2, 7);
        Check.dueFault("apart 10;", 2, 6);
        Check.dueFault("near 5;", 2, 5);
        Check.dueFault("heal 0;", 2, 5);
        Check.dueFault("heal 100;", 2, 5);
        Check.dueFault("fee 100 0;", 2, 4);
        Check.dueFault("fee 0 100;", 2, 6);
        Check.dueFault("stair 10 0 1;", 2, 6);
        Check.dueFault("stair 0 10 1;", 2, 8);
        Check.dueFault("stair 0 0 0;", 2, 10);
        Check.dueFault("stair 0 0 10;", 2, 10);
        Check.dueFault("stair 0 0 1;stair 0 1 1;stair 0 2 1;stair 0 3 1; stair", 2, 49);
        Check.dueFault("stair 0 0 1;stair 0 1 1;stair 0 2 1;stair 0 3 1; stair 0 0 1;", 2, 49);
    }

    private static void linesToldAlready() {
        String[] lines = {"bear 1;", "melt 1 1;", "apart 1;", "near 1;", "heal 1;", "fee 1 1;"};
        for (String line : lines) {
            Check.dueFault(line + line, 3, line.length());
        }
        Check.dueFault("stair 3 4 1;stair 3 4 2;", 3, 18);
        Check.dueFault("stair 3 4 1;stair 03  04", 3, 18);
        Check.dueFault("stair 3 4 1;stair 3 4 0;", 3, 18);
        Check.dueLines("stair 3 4 1;stair 4 3 1;", 2);
    }

    private static void theFirstFaultAlongTheText() {
        Check.dueFault("bear 0;x", 2, 5);
        Check.dueFault("x bear 0;", 1, 0);
        Check.dueFault("bear 1;bear 0;", 3, 7);
        Check.dueFault("bear 1;bear x", 3, 7);
        Check.dueFault("bear 1000", 2, 5);
        Check.dueFault("stair 3 4 1;stair 3 x", 1, 20);
        Check.dueFault("stair 3 4 1;stair 3", 1, 19);
        Check.dueFault("stair 3 4 1;stair 3 10 1;", 2, 20);
        Check.dueFault("stair 3 4 1;stair 10 4 1;", 2, 18);
        Check.dueFault("stair 3 4 1;stair 3 4 x", 3, 18);
        Check.dueFault("stair 3 4 1;stair 3 4x", 3, 18);
    }

    private static void faultOfTheLatest() {
        IceFair fair = new IceFair();
        Check.due("fault(0) of a new one", fair.fault(0), 0);
        Check.due("fault(1) of a new one", fair.fault(1), IceFair.NONE);
        Check.due("fault(2)", fair.fault(2), IceFair.NONE);
        Check.due("fault(-1)", fair.fault(-1), IceFair.NONE);
        Check.customs(fair, "bear 0;");
        Check.due("customs(1)", fair.customs(1), -2);
        Check.due("fault(0), -2 leaves it", fair.fault(0), 2);
        Check.due("fault(1), -2 leaves it", fair.fault(1), 5);
        Check.due("fault(2)", fair.fault(2), IceFair.NONE);
        Check.due("fault(most int)", fair.fault(Integer.MAX_VALUE), IceFair.NONE);
        fair.ice(5, 5);
        Check.due("fault(0), new ice leaves it", fair.fault(0), 2);
        Check.customs(fair, "bear 1;");
        Check.due("fault(0)", fair.fault(0), 0);
        Check.due("fault(1)", fair.fault(1), IceFair.NONE);
    }
}
