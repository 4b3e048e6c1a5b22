/** The boundary cases of the tape, the customs and their faults: promises 2, 3, 4 and their words in 'Terms'. */
public final class TextEdgesTest {
    private static final int NONE = IceFair.NONE;
    private static final String BLANKS = " ".repeat(400);

    /** A line by its parts: what stands before the number that is tried, what behind it, and its bounds. */
    private static final class Bound {
        final String before;
        final String behind;
        final int least;
        final int most;

        Bound(String before, String behind, int least, int most) {
            this.before = before;
            this.behind = behind;
            this.least = least;
            this.most = most;
        }
    }

    private static final Bound[] BOUNDS = {
        new Bound("bear ", ";", 1, 999), new Bound("melt ", " 0;", 0, 9), new Bound("melt 0 ", ";", 0, 9),
        new Bound("apart ", ";", 0, 9), new Bound("near ", ";", 0, 4), new Bound("heal ", ";", 1, 99),
        new Bound("fee ", " 0;", 0, 99), new Bound("fee 0 ", ";", 0, 99), new Bound("stair ", " 0 1;", 0, 9),
        new Bound("stair 0 ", " 1;", 0, 9), new Bound("stair 0 0 ", ";", 1, 9)};

    public static void main(String[] args) {
        aTapeOfFourHundredIsFull();
        aTapeThatIsFullKeepsItsBytes();
        everyPlaceOfTheTwentyBytes();
        asManyBytesAsThereAre();
        nBelowZero();
        noBytesOfATapeThatHasSome();
        fewerBytesThanTheTapeHas();
        notSoManyLeavesTheCustoms();
        everyByteBehindANumber();
        everyByteBeforeAWord();
        everyByteBetweenWordAndNumber();
        everyByteBetweenLines();
        wordsALetterShortOrLong();
        numbersAtTheirBounds();
        numbersThatWouldWrapRound();
        numbersOfManyDigits();
        textCutAnywhere();
        aTextOfFourHundred();
        fourStairsAndAFifth();
        stairsAtOtherCells();
        eachLineOnce();
        onceInEachText();
        faultsAlongTheText();
        theLeastFaultOfOnePlace();
        withoutALine();
        linesThatGoWithANewText();
        faultsOfNoSuchWhat();
        Check.end();
    }

    /** "how many it has; NONE, and none come, if it would have more than 400." */
    private static void aTapeOfFourHundredIsFull() {
        IceFair fair = new IceFair();
        for (int has = 20; has <= 400; has += 20) {
            Check.due("feed to " + has, fair.feed(-1, Integer.MIN_VALUE, Integer.MAX_VALUE, 0, 1), has);
        }
        Check.due("feed to 420", fair.feed(0, 0, 0, 0, 0), NONE);
        Check.due("feed to 420 again", fair.feed(0, 0, 0, 0, 0), NONE);
        Check.due("customs(401)", fair.customs(401), -2);
        Check.due("customs(400), byte 255 comes first", fair.customs(400), NONE);
        Check.due("its place", fair.fault(1), 0);
        Check.due("feed to 20", fair.feed(0, 0, 0, 0, 0), 20);
    }

    private static void aTapeThatIsFullKeepsItsBytes() {
        IceFair fair = Check.fairOn(3, 3, 10, 10, "");
        Check.feedText(fair, "bear 7;" + BLANKS.substring(0, 379) + "stair 1 2 3;  ");
        Check.due("feed to 420", fair.feed(0, 0, 0, 0, 0), NONE);
        Check.due("customs(400)", fair.customs(400), 2);
        Check.dueText("bears by 7", Check.cell(fair, 0, 0, 4), "7");
        Check.due("a stair", fair.count(7), 1);
    }

    /** "Twenty bytes come behind the TAPE, four of each number, the highest first". */
    private static void everyPlaceOfTheTwentyBytes() {
        for (int place = 0; place < 20; place++) {
            for (int sign : new int[] {0, 33, 128, 255}) {
                IceFair fair = new IceFair();
                int[] five = new int[5];
                for (int i = 0; i < 20; i++) {
                    five[i / 4] |= (i == place ? sign : 32) << (24 - 8 * (i % 4));
                }
                fair.feed(0x20202020, 0x20202020, 0x20202020, 0x20202020, 0x20202020);
                Check.due("feed", fair.feed(five[0], five[1], five[2], five[3], five[4]), 40);
                Check.due("customs(40) with " + sign + " at " + place, fair.customs(40), NONE);
                Check.due("its FAULT", fair.fault(0), 1);
                Check.due("its place", fair.fault(1), 20 + place);
            }
        }
    }

    /** "-2, and the TAPE stays: there are not so many". */
    private static void asManyBytesAsThereAre() {
        IceFair fair = new IceFair();
        Check.due("customs(1) of an empty tape", fair.customs(1), -2);
        Check.due("customs(0) of an empty tape", fair.customs(0), 0);
        Check.feedText(fair, "near 1;             ");
        Check.due("customs(21) of 20", fair.customs(21), -2);
        Check.due("customs(most int) of 20", fair.customs(Integer.MAX_VALUE), -2);
        Check.due("the tape stayed", fair.feed(0x20202020, 0x20202020, 0x20202020, 0x20202020, 0x20202020), 40);
        Check.due("customs(41) of 40", fair.customs(41), -2);
        Check.due("customs(40) of 40", fair.customs(40), 1);
        Check.due("customs(1), it is empty then", fair.customs(1), -2);
        Check.due("feed to an empty tape", fair.feed(0, 0, 0, 0, 0), 20);
    }

    /** "-2, and the TAPE stays: .. n is below 0." */
    private static void nBelowZero() {
        IceFair fair = new IceFair();
        Check.due("customs(-1) of an empty tape", fair.customs(-1), -2);
        Check.feedText(fair, "near 1;             ");
        Check.due("customs(-1)", fair.customs(-1), -2);
        Check.due("customs(-20)", fair.customs(-20), -2);
        Check.due("customs(least int)", fair.customs(Integer.MIN_VALUE), -2);
        Check.due("customs(20), the tape stayed", fair.customs(20), 1);
    }

    /** "(it is empty then)": with n 0 too, and without any LINE the customs are the usual ones. */
    private static void noBytesOfATapeThatHasSome() {
        IceFair fair = Check.fairOn(3, 3, 10, 10, "bear 200;stair 0 0 1;");
        Check.feedText(fair, "bear 300;");
        Check.due("customs(0) of 20", fair.customs(0), 0);
        Check.due("customs(1), it is empty then", fair.customs(1), -2);
        Check.dueText("bears as usual", Check.cell(fair, 0, 0, 4), "100");
        Check.due("no stairs", fair.count(7), 0);
        Check.due("no FAULT", fair.fault(0), 0);
    }

    private static void fewerBytesThanTheTapeHas() {
        IceFair fair = new IceFair();
        Check.feedText(fair, "near 1;heal 1;bear 1;apart 1;");
        Check.due("customs(14)", fair.customs(14), 2);
        Check.due("customs(1), the rest is gone", fair.customs(1), -2);
        Check.due("feed", fair.feed(0x6E656172, 0x20313B20, 0x20202020, 0x20202020, 0x20202020), 20);
        Check.due("customs(7)", fair.customs(7), 1);
    }

    private static void notSoManyLeavesTheCustoms() {
        IceFair fair = Check.fairOn(3, 3, 10, 10, "bear 200;stair 0 0 1;");
        Check.due("customs(1)", fair.customs(1), -2);
        Check.due("customs(-1)", fair.customs(-1), -2);
        Check.dueText("bears by 200", Check.cell(fair, 0, 0, 4), "200");
        Check.due("a stair", fair.count(7), 1);
        Check.due("no FAULT", fair.fault(0), 0);
        Check.due("no place", fair.fault(1), NONE);
        Check.due("customs of a FAULT", Check.customs(fair, "near 5;"), NONE);
        Check.due("customs(1)", fair.customs(1), -2);
        Check.due("the FAULT of the latest that was not -2", fair.fault(0), 2);
        Check.due("its place", fair.fault(1), 5);
    }

    private static boolean isBlank(int sign) {
        return sign == 10 || sign == 32;
    }

    private static boolean isSmallLetter(int sign) {
        return "abcdefghijklmnopqrstuvwxyz".indexOf(sign) >= 0;
    }

    private static boolean isDigit(int sign) {
        return "0123456789".indexOf(sign) >= 0;
    }

    /** "Blanks 10, 32.", "N: digits", "a TOKEN that is none or can't stand there". */
    private static void everyByteBehindANumber() {
        for (int sign = 0; sign < 256; sign++) {
            String text = "near 1" + (char) sign + ";";
            if (isBlank(sign)) {
                Check.dueLines(text, 1);
            } else if (isDigit(sign)) {
                Check.dueFault(text, 2, 5);
            } else {
                Check.dueFault(text, 1, sign == ';' ? 7 : 6);
            }
        }
    }

    private static void everyByteBeforeAWord() {
        for (int sign = 0; sign < 256; sign++) {
            String text = (char) sign + "near 1;";
            if (isBlank(sign)) {
                Check.dueLines(text, 1);
            } else {
                Check.dueFault(text, 1, 0);
            }
        }
    }

    /** "Words are small letters in a row.": a letter makes it another word, any other sign ends it. */
    private static void everyByteBetweenWordAndNumber() {
        for (int sign = 0; sign < 256; sign++) {
            String text = "near" + (char) sign + "1;";
            if (isBlank(sign) || sign == '0') {
                Check.dueLines(text, 1);
            } else if (isDigit(sign)) {
                Check.dueFault(text, 2, 4);
            } else {
                Check.dueFault(text, 1, isSmallLetter(sign) ? 0 : 4);
            }
        }
    }

    private static void everyByteBetweenLines() {
        for (int sign = 0; sign < 256; sign++) {
            String text = "near 1;" + (char) sign + "heal 1;";
            if (isBlank(sign)) {
                Check.dueLines(text, 2);
            } else {
                Check.dueFault(text, 1, 7);
            }
        }
    }

    private static void wordsALetterShortOrLong() {
        String[] words = {"bear", "melt", "apart", "near", "heal", "fee", "stair"};
        for (String word : words) {
            String rest = " 1 1 1;";
            Check.dueFault(word.substring(1) + rest, 1, 0);
            Check.dueFault(word.substring(0, word.length() - 1) + rest, 1, 0);
            Check.dueFault(word + "s" + rest, 1, 0);
            Check.dueFault("a" + word + rest, 1, 0);
            Check.dueFault(word.substring(0, 2) + " " + word.substring(2) + rest, 1, 0);
            Check.dueFault(word.toUpperCase() + rest, 1, 0);
            Check.dueFault(word, 1, word.length());
        }
    }

    /** "bear 1 .. 999, melt 0 .. 9 each, ..", "an N beyond what is said (at it)". */
    private static void numbersAtTheirBounds() {
        for (Bound bound : BOUNDS) {
            for (int value = 0; value <= bound.most + 1; value++) {
                String text = bound.before + value + bound.behind;
                if (value < bound.least || value > bound.most) {
                    Check.dueFault(text, 2, bound.before.length());
                } else {
                    Check.dueLines(text, 1);
                }
            }
        }
    }

    private static void numbersThatWouldWrapRound() {
        String[] rounds = {"256", "65536", "4294967296", "18446744073709551616", "2147483648", "9223372036854775808"};
        for (Bound bound : BOUNDS) {
            for (String round : rounds) {
                for (int value : new int[] {bound.least, bound.most}) {
                    String number = new java.math.BigInteger(round).add(java.math.BigInteger.valueOf(value)).toString();
                    boolean fits = number.length() < 4 && Integer.parseInt(number) <= bound.most;
                    if (!fits) {
                        Check.dueFault(bound.before + number + bound.behind, 2, bound.before.length());
                    }
                }
            }
        }
    }

    private static void numbersOfManyDigits() {
        for (Bound bound : BOUNDS) {
            int room = 400 - bound.before.length() - bound.behind.length();
            String zeros = "0".repeat(room - String.valueOf(bound.most).length());
            Check.dueLines(bound.before + zeros + bound.most + bound.behind, 1);
            String more = String.valueOf(bound.most + 1);
            Check.dueFault(bound.before + "0".repeat(room - more.length()) + more + bound.behind, 2,
                bound.before.length());
            Check.dueFault(bound.before + "9".repeat(room) + bound.behind, 2, bound.before.length());
        }
    }

    /** "(the length, if more must come)": the length of the text, not of the tape. */
    private static void textCutAnywhere() {
        String text = "fee 12 3;\n stair 4 5 6 ;";
        for (int n = 0; n <= text.length(); n++) {
            int lines = n == 0 ? 0 : n < 9 ? NONE : n < 12 ? 1 : n < 24 ? NONE : 2;
            int place = n < 3 ? 0 : n < 9 ? n : n < 16 ? 11 : n;
            IceFair fair = new IceFair();
            Check.feedText(fair, text);
            Check.due("customs(" + n + ")", fair.customs(n), lines);
            Check.due("FAULT of customs(" + n + ")", fair.fault(0), lines == NONE ? 1 : 0);
            Check.due("place of customs(" + n + ")", fair.fault(1), lines == NONE ? place : NONE);
        }
    }

    private static void aTextOfFourHundred() {
        Check.dueLines(BLANKS, 0);
        Check.dueLines(BLANKS.substring(7) + "near 4;", 1);
        Check.dueFault(BLANKS.substring(6) + "near 4", 1, 400);
        Check.dueFault(BLANKS.substring(1) + ";", 1, 399);
        Check.dueFault("near" + BLANKS.substring(4), 1, 400);
        Check.dueFault("a".repeat(400), 1, 0);
        Check.dueFault(";".repeat(400), 1, 0);
    }

    /** "At most 4 stairs", "a fifth stair (at its word)". */
    private static void fourStairsAndAFifth() {
        String four = "stair 0 0 1;stair 0 9 1;stair 9 0 1;stair 9 9 1;";
        Check.dueLines(four, 4);
        Check.dueLines(four + "bear 1;melt 1 1;apart 1;near 1;heal 1;fee 1 1;", 10);
        Check.dueFault(four + "stair 5 5 1;", 2, 48);
        Check.dueFault(four + " stair", 2, 49);
        Check.dueFault(four + "near 1;\nstair 0 0 1;", 2, 56);
        Check.dueFault(four + "stair 10 0 1;", 2, 48);
        Check.dueFault(four + "stairs 5 5 1;", 1, 48);
    }

    /** "each at another cell", "a stair at a cell that has one (at its first N, as soon as its second one is read)". */
    private static void stairsAtOtherCells() {
        String three = "stair 1 2 1;stair 3 4 1;stair 5 6 1;";
        int[][] taken = {{1, 2}, {3, 4}, {5, 6}};
        for (int[] at : taken) {
            String cell = at[0] + " " + at[1];
            Check.dueFault(three + "stair " + cell + " 1;", 3, 42);
            Check.dueFault(three + "stair  " + cell, 3, 43);
            Check.dueFault(three + "stair " + cell + " 0;", 3, 42);
            Check.dueFault(three + "stair " + cell + ";", 3, 42);
            Check.dueFault(three + "stair " + cell + "0 1;", 2, 44);
            Check.dueFault(three + "stair " + at[0], 1, 43);
            Check.dueFault(three + "stair " + at[0] + ";", 1, 43);
            Check.dueLines(three + "stair " + at[1] + " " + at[0] + " 1;", 4);
            Check.dueLines(three + "stair " + at[0] + " 9 1;", 4);
            Check.dueLines(three + "stair 9 " + at[1] + " 1;", 4);
        }
    }

    /** "else each LINE once", "a LINE told already (at its word)". */
    private static void eachLineOnce() {
        String[] lines = {"bear 1;", "melt 1 1;", "apart 1;", "near 1;", "heal 1;", "fee 1 1;"};
        for (int i = 0; i < lines.length; i++) {
            String word = lines[i].substring(0, lines[i].indexOf(' '));
            Check.dueFault(lines[i] + lines[i], 3, lines[i].length());
            Check.dueFault(lines[i] + " " + word, 3, lines[i].length() + 1);
            Check.dueFault(lines[i] + word + " 1000;", 3, lines[i].length());
            for (int j = 0; j < lines.length; j++) {
                if (j != i) {
                    Check.dueLines(lines[i] + lines[j], 2);
                    Check.dueFault(lines[i] + lines[j] + "stair 1 1 1;" + lines[i], 3,
                        lines[i].length() + lines[j].length() + 12);
                }
            }
        }
    }

    private static void onceInEachText() {
        IceFair fair = new IceFair();
        String text = "bear 1;melt 1 1;apart 1;near 1;heal 1;fee 1 1;stair 1 1 1;stair 2 2 1;stair 3 3 1;stair 4 4 1;";
        Check.due("customs", Check.customs(fair, text), 10);
        Check.due("customs of the same text", Check.customs(fair, text), 10);
        Check.due("customs of a FAULT", Check.customs(fair, text + "fee 1 1;"), NONE);
        Check.due("its FAULT", fair.fault(0), 3);
        Check.due("customs of the same text", Check.customs(fair, text), 10);
        Check.due("stairs", fair.count(7), 4);
    }

    /** "FAULTS, the first along the text". */
    private static void faultsAlongTheText() {
        Check.dueFault("near 5;near 1;near 1;", 2, 5);
        Check.dueFault("near 1;near 5;", 3, 7);
        Check.dueFault("near 1;!near 5;", 1, 7);
        Check.dueFault("near 5!", 2, 5);
        Check.dueFault("near !5", 1, 5);
        Check.dueFault("melt 10 10;", 2, 5);
        Check.dueFault("melt 1 ; melt 10", 1, 7);
        Check.dueFault("stair 1 1 1;stair 1 1 10;", 3, 18);
        Check.dueFault("stair 1 1 1;stair 1 10 1;", 2, 20);
        Check.dueFault("stair 1 1 10;stair 1 1 1;", 2, 10);
        Check.dueFault("near 1 99;", 1, 7);
    }

    /** "(of one place the least)": what can't stand there is a 1, though it would be a 2 or 3 elsewhere. */
    private static void theLeastFaultOfOnePlace() {
        String four = "stair 0 0 1;stair 0 9 1;stair 9 0 1;stair 9 9 1;";
        Check.dueFault(four + "near stair 5 5 1;", 1, 53);
        Check.dueFault(four + "near 1 stair 5 5 1;", 1, 55);
        Check.dueFault("near near 1;", 1, 5);
        Check.dueFault("heal 1;near heal 1;", 1, 12);
        Check.dueFault("heal 1;near 1 heal 1;", 1, 14);
        Check.dueFault("1000;", 1, 0);
        Check.dueFault("near 1;1000;", 1, 7);
        Check.dueFault("near 1 1000;", 1, 7);
        Check.dueFault("stair 1 1 1 10;", 1, 12);
    }

    /** "Without a LINE: bear 100, melt 1 0, apart 0, near 1, heal 99, fee 1 0, no stairs." */
    private static void withoutALine() {
        for (String text : new String[] {"", "\n"}) {
            IceFair fair = Check.fairOn(5, 5, 90, 90, text);
            dueAsUsual(fair);
        }
    }

    private static void linesThatGoWithANewText() {
        IceFair fair = Check.fairOn(5, 5, 90, 90,
            "bear 999;melt 9 9;apart 9;near 4;heal 1;fee 99 99;stair 0 0 9;stair 4 4 9;");
        Check.due("customs(0)", fair.customs(0), 0);
        dueAsUsual(fair);
    }

    private static void dueAsUsual(IceFair fair) {
        Check.dueText("bear 100", Check.cell(fair, 0, 0, 4), "8100");
        Check.due("no stairs", fair.count(7), 0);
        fair.booth(50, true, 0);
        fair.booth(1, true, 0);
        Check.due("fee 1 0", fair.set(0, 2, 2), 50);
        Check.due("apart 0", fair.set(1, 3, 2), 1);
        fair.clear(1);
        fair.hour(0);
        Check.dueText("melt 1", Check.cell(fair, 2, 2, 0), "89");
        Check.dueText("and 0", Check.cell(fair, 3, 2, 0), "90");
        Check.crack(fair, 0, 0, 98, 99);
        fair.hour(0);
        Check.dueText("heal 99, of 98", Check.cell(fair, 0, 0, 2), "1");
        Check.due("near 1", fair.set(1, 1, 0), 1);
        Check.due("none has to MOVE", fair.count(8), 0);
        fair.sound(0, 0, 0, 0, 99, 99);
        fair.hour(0);
        Check.dueText("heal 99, of 99", Check.cell(fair, 0, 0, 2), "0");
    }

    /** "what 0: its FAULT (0), 1: its place (NONE without). NONE for another what." */
    private static void faultsOfNoSuchWhat() {
        IceFair fair = new IceFair();
        int[] none = {-1, 2, 3, Integer.MIN_VALUE, Integer.MAX_VALUE};
        for (String text : new String[] {"", "near 5;", "near 1;near 1;", "near 1"}) {
            Check.customs(fair, text);
            for (int what : none) {
                Check.due("fault(" + what + ")", fair.fault(what), NONE);
            }
        }
        Check.due("fault(0)", fair.fault(0), 1);
        Check.due("fault(1)", fair.fault(1), 6);
        fair.customs(0);
        Check.due("fault(0) without", fair.fault(0), 0);
        Check.due("fault(1) without", fair.fault(1), NONE);
    }
}
