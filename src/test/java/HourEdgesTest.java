/** The boundary cases of an hour: promise 10 and its words in 'Terms'. */
public final class HourEdgesTest {
    private static final int NONE = IceFair.NONE;

    public static void main(String[] args) {
        coldsOfMinusNineToNine();
        anHourThatIsNoneLeavesAll();
        everyThicknessInEveryCold();
        meltingIsSummedBeforeItIsCut();
        firesMeltFourCellsBeside();
        meltingStaysOnTheIce();
        onlyFiresThatAreSetMelt();
        leastAndMostMelting();
        cracksHealAtHealOrMore();
        leastAndMostHeal();
        healingComesBeforeTheCold();
        healingComesBeforeTheBreaking();
        strainOfAsMuchHoldsAndOneMoreBreaks();
        lowOfNothingUnderStrain();
        highOfNothingAndOfOne();
        cracksDoNotBreakAgain();
        noneToTenSink();
        allBreakAtOnce();
        whatSinksStrainsNoMore();
        firesBurnBeforeTheySink();
        moveWhenACrackComes();
        hoursAreCounted();
        Check.end();
    }

    /** "An HOUR of cold c (-9 .. 9)", "NONE: no such cold." */
    private static void coldsOfMinusNineToNine() {
        int[] colds = {Integer.MIN_VALUE, -255, -11, -10, -9, -8, -1, 0, 1, 8, 9, 10, 11, 260, Integer.MAX_VALUE};
        for (int cold : colds) {
            IceFair fair = Check.fairOn(3, 3, 50, 60, "");
            boolean there = cold >= -9 && cold <= 9;
            Check.due("hour(" + cold + ")", fair.hour(cold), there ? 0 : NONE);
            Check.due("HOURS", fair.count(4), there ? 1 : 0);
            Check.dueText("LOW", Check.cell(fair, 0, 0, 0), String.valueOf(there ? 50 + cold : 50));
            Check.dueText("HIGH", Check.cell(fair, 2, 2, 1), String.valueOf(there ? 60 + cold : 60));
        }
    }

    private static void anHourThatIsNoneLeavesAll() {
        // An hour of any cold would heal the one crack, make another and sink the booth.
        IceFair fair = Check.fairOn(3, 3, 50, 60, "heal 40;stair 0 0 1;");
        fair.booth(9, true, 5);
        fair.set(0, 1, 1);
        Check.crack(fair, 2, 2, 50, 50);
        fair.sound(1, 1, 1, 1, 1, 9);
        String all = Check.allOf(fair, 3, 3);
        Check.due("hour(10)", fair.hour(10), NONE);
        Check.due("hour(-10)", fair.hour(-10), NONE);
        Check.dueText("all is as it was", Check.allOf(fair, 3, 3), all);
        Check.due("hour(0)", fair.hour(0), 1);
        Check.dueText("healed", Check.cell(fair, 2, 2, 2), "0");
    }

    /** "each cell's LOW and HIGH change by c, .. (0 at least, 99 at most)". */
    private static void everyThicknessInEveryCold() {
        for (int cold = -9; cold <= 9; cold++) {
            IceFair fair = new IceFair();
            fair.ice(10, 10);
            for (int thick = 0; thick < 100; thick++) {
                fair.sound(thick % 10, thick / 10, thick % 10, thick / 10, thick, 99 - (99 - thick) / 2);
            }
            fair.hour(cold);
            for (int thick = 0; thick < 100; thick++) {
                int high = 99 - (99 - thick) / 2;
                Check.dueText("LOW " + thick + " by " + cold, Check.cell(fair, thick % 10, thick / 10, 0),
                    String.valueOf(Math.min(99, Math.max(0, thick + cold))));
                Check.dueText("HIGH " + high + " by " + cold, Check.cell(fair, thick % 10, thick / 10, 1),
                    String.valueOf(Math.min(99, Math.max(0, high + cold))));
            }
        }
    }

    private static void meltingIsSummedBeforeItIsCut() {
        IceFair fair = Check.fairOn(3, 3, 97, 99, "melt 9 1;");
        fair.booth(1, true, 0);
        fair.set(0, 1, 1);
        fair.hour(9);
        Check.dueText("9 less 9, LOW", Check.cell(fair, 1, 1, 0), "97");
        Check.dueText("9 less 9, HIGH", Check.cell(fair, 1, 1, 1), "99");
        Check.dueText("9 less 1, LOW", Check.cell(fair, 1, 0, 0), "99");
        Check.dueText("9 less 0, LOW", Check.cell(fair, 0, 0, 0), "99");
        fair.sound(0, 0, 2, 2, 3, 5);
        fair.hour(9);
        Check.dueText("9 less 9, LOW", Check.cell(fair, 1, 1, 0), "3");
        Check.dueText("9 less 1, HIGH", Check.cell(fair, 1, 2, 1), "13");
    }

    /** "less the second one for each FIRE SET at one of the four cells beside". */
    private static void firesMeltFourCellsBeside() {
        IceFair fair = Check.fairOn(5, 5, 50, 50, "melt 3 1;");
        int[][] fires = {{2, 2}, {2, 1}, {2, 3}, {1, 2}, {3, 2}};
        for (int i = 0; i < fires.length; i++) {
            fair.booth(1, true, 0);
            fair.set(i, fires[i][0], fires[i][1]);
        }
        fair.hour(0);
        int[][] melted = {{0, 0, 1, 0, 0}, {0, 2, 4, 2, 0}, {1, 4, 7, 4, 1}, {0, 2, 4, 2, 0}, {0, 0, 1, 0, 0}};
        for (int at = 0; at < 25; at++) {
            String due = String.valueOf(50 - melted[at / 5][at % 5]);
            Check.dueText("LOW at " + at % 5 + ", " + at / 5, Check.cell(fair, at % 5, at / 5, 0), due);
            Check.dueText("HIGH at " + at % 5 + ", " + at / 5, Check.cell(fair, at % 5, at / 5, 1), due);
        }
    }

    private static void meltingStaysOnTheIce() {
        int[][] sizes = {{10, 3}, {3, 10}, {10, 10}, {4, 5}};
        for (int[] size : sizes) {
            int w = size[0];
            int h = size[1];
            int[][] places = {{0, 0}, {w - 1, 0}, {0, h - 1}, {w - 1, h - 1}, {w - 1, 1}, {0, 1}};
            for (int[] fire : places) {
                IceFair fair = Check.fairOn(w, h, 50, 50, "melt 5 3;");
                fair.booth(1, true, 0);
                fair.set(0, fire[0], fire[1]);
                fair.hour(0);
                for (int at = 0; at < w * h; at++) {
                    int off = Math.abs(at % w - fire[0]) + Math.abs(at / w - fire[1]);
                    Check.dueText("LOW " + off + " off a FIRE", Check.cell(fair, at % w, at / w, 0),
                        off == 0 ? "45" : off == 1 ? "47" : "50");
                }
            }
        }
    }

    private static void onlyFiresThatAreSetMelt() {
        IceFair fair = Check.fairOn(3, 3, 50, 50, "melt 9 9;near 0;");
        fair.booth(1, true, 0);
        fair.booth(1, false, 0);
        fair.set(1, 1, 1);
        fair.hour(0);
        Check.dueText("under one without a FIRE", Check.cell(fair, 1, 1, 0), "50");
        fair.set(0, 0, 0);
        fair.hour(0);
        Check.dueText("under one with a FIRE", Check.cell(fair, 0, 0, 0), "41");
        fair.clear(0);
        fair.hour(0);
        Check.dueText("it WAITS", Check.cell(fair, 0, 0, 0), "41");
        fair.set(0, 0, 0);
        fair.sound(0, 0, 0, 0, 9, 9);
        Check.due("it sinks", fair.hour(0), 1);
        fair.sound(0, 0, 0, 0, 50, 50);
        fair.hour(0);
        Check.dueText("it is SUNK", Check.cell(fair, 0, 0, 0), "50");
    }

    /** "melt 0 .. 9 each". */
    private static void leastAndMostMelting() {
        int[][] rows = {{0, 0}, {9, 0}, {0, 9}, {9, 9}};
        for (int[] row : rows) {
            IceFair fair = Check.fairOn(3, 3, 50, 50, "melt " + row[0] + " " + row[1] + ";");
            fair.booth(1, true, 0);
            fair.set(0, 1, 1);
            fair.hour(0);
            Check.dueText("on it", Check.cell(fair, 1, 1, 0), String.valueOf(50 - row[0]));
            Check.dueText("beside", Check.cell(fair, 0, 1, 0), String.valueOf(50 - row[1]));
            Check.dueText("across", Check.cell(fair, 0, 0, 0), "50");
        }
    }

    /** "CRACKS whose LOW is heal or more are none any more." */
    private static void cracksHealAtHealOrMore() {
        for (int heal : new int[] {1, 2, 50, 98, 99}) {
            IceFair fair = Check.fairOn(3, 3, 99, 99, "heal " + heal + ";");
            fair.sound(0, 0, 2, 0, 0, 0);
            fair.hour(0);
            Check.due("three CRACKS", fair.count(3), 3);
            fair.sound(0, 0, 0, 0, heal - 1, 99);
            fair.sound(1, 0, 1, 0, heal, 99);
            fair.sound(2, 0, 2, 0, Math.min(99, heal + 1), 99);
            fair.hour(0);
            Check.dueText("LOW is one less than " + heal, Check.cell(fair, 0, 0, 2), "1");
            Check.dueText("LOW is " + heal, Check.cell(fair, 1, 0, 2), "0");
            Check.dueText("LOW is more", Check.cell(fair, 2, 0, 2), "0");
            Check.due("one CRACK", fair.count(3), 1);
        }
    }

    private static void leastAndMostHeal() {
        IceFair fair = Check.fairOn(3, 3, 50, 50, "heal 1;");
        Check.crack(fair, 1, 1, 0, 99);
        fair.hour(0);
        Check.due("heal 1, LOW 0", fair.count(3), 1);
        fair.sound(1, 1, 1, 1, 1, 1);
        fair.hour(0);
        Check.due("heal 1, LOW 1", fair.count(3), 0);
    }

    private static void healingComesBeforeTheCold() {
        IceFair fair = Check.fairOn(3, 3, 50, 50, "heal 20;");
        Check.crack(fair, 0, 0, 19, 60);
        fair.hour(9);
        Check.dueText("19 and 9, a CRACK yet", Check.cell(fair, 0, 0, 2), "1");
        Check.dueText("its LOW", Check.cell(fair, 0, 0, 0), "28");
        fair.sound(0, 0, 0, 0, 20, 60);
        fair.hour(-9);
        Check.dueText("20 less 9, healed", Check.cell(fair, 0, 0, 2), "0");
        Check.dueText("its LOW", Check.cell(fair, 0, 0, 0), "11");
    }

    private static void healingComesBeforeTheBreaking() {
        IceFair fair = Check.fairOn(3, 3, 50, 50, "heal 3;near 0;");
        fair.booth(25, false, 0);
        fair.set(0, 1, 1);
        Check.crack(fair, 0, 0, 3, 9);
        Check.due("hour(0)", fair.hour(0), 0);
        Check.dueText("healed, and 9 of 25 breaks it again", Check.cell(fair, 0, 0, 2), "1");
        fair.sound(0, 0, 0, 0, 5, 9);
        Check.due("hour(0)", fair.hour(0), 0);
        Check.dueText("healed, and 25 of 25 holds", Check.cell(fair, 0, 0, 2), "0");
    }

    /** "all cells that are no CRACK with a STRAIN above what they BEAR": on, beside and across. */
    private static void strainOfAsMuchHoldsAndOneMoreBreaks() {
        for (int dy = -1; dy <= 1; dy++) {
            for (int dx = -1; dx <= 1; dx++) {
                int off = Math.abs(dx) + Math.abs(dy);
                int weight = off == 0 ? 25 : off == 1 ? 18 : 36;
                int low = off == 0 ? 10 : 6;
                dueBreaking(2 + dx, 2 + dy, weight, low, false, off == 0);
                dueBreaking(2 + dx, 2 + dy, weight + 1, low, true, off == 0);
                dueBreaking(2 + dx, 2 + dy, weight, low - 1, true, off == 0);
            }
        }
    }

    private static void dueBreaking(int x, int y, int weight, int low, boolean breaks, boolean under) {
        IceFair fair = Check.fairOn(5, 5, 90, 99, "");
        fair.booth(weight, false, 0);
        fair.set(0, 2, 2);
        fair.sound(x, y, x, y, low + 2, 50);
        Check.due("hour(-2) of " + weight, fair.hour(-2), breaks && under ? 1 : 0);
        Check.due("CRACKS", fair.count(3), breaks ? 1 : 0);
        Check.dueText("at " + x + ", " + y, Check.cell(fair, x, y, 2), breaks ? "1" : "0");
        Check.dueText("the BOOTH", Check.look(fair, 0, 0), breaks && under ? "2" : "1");
    }

    private static void lowOfNothingUnderStrain() {
        IceFair fair = Check.fairOn(4, 3, 50, 50, "bear 999;");
        fair.booth(1, false, 0);
        fair.set(0, 0, 0);
        fair.sound(1, 1, 1, 1, 1, 50);
        Check.due("hour(0)", fair.hour(0), 0);
        Check.due("LOW 1 across", fair.count(3), 0);
        fair.sound(2, 0, 3, 2, 0, 50);
        Check.due("hour(0)", fair.hour(0), 0);
        Check.due("LOW 0 without STRAIN", fair.count(3), 0);
        fair.sound(1, 1, 1, 1, 0, 50);
        Check.due("hour(0)", fair.hour(0), 0);
        Check.due("LOW 0 across", fair.count(3), 1);
        Check.dueText("it is this one", Check.cell(fair, 1, 1, 2), "1");
    }

    /** "or with a HIGH of 0, become CRACKS". */
    private static void highOfNothingAndOfOne() {
        for (int cold = -9; cold <= 0; cold++) {
            IceFair fair = Check.fairOn(3, 3, 0, 1 - cold, "");
            fair.sound(1, 2, 1, 2, 0, -cold);
            fair.sound(2, 1, 2, 1, 0, Math.max(0, -cold - 1));
            Check.due("hour(" + cold + ")", fair.hour(cold), 0);
            Check.due("CRACKS", fair.count(3), 2);
            Check.dueText("HIGH 1", Check.cell(fair, 0, 0, 2), "0");
            Check.dueText("HIGH 0", Check.cell(fair, 1, 2, 2), "1");
            Check.dueText("HIGH 0, cut", Check.cell(fair, 2, 1, 2), "1");
        }
        IceFair fair = Check.fairOn(3, 3, 0, 0, "");
        Check.due("hour(1)", fair.hour(1), 0);
        Check.due("HIGH 1 from 0", fair.count(3), 0);
    }

    private static void cracksDoNotBreakAgain() {
        IceFair fair = Check.fairOn(3, 3, 50, 50, "near 2;");
        fair.booth(50, false, 0);
        fair.set(0, 1, 1);
        Check.crack(fair, 0, 0, 0, 0);
        for (int hour = 0; hour < 3; hour++) {
            Check.due("hour(0)", fair.hour(0), 0);
            Check.due("one CRACK", fair.count(3), 1);
            Check.dueText("it is SET", Check.look(fair, 0, 0), "1");
            Check.dueText("it has to MOVE", Check.look(fair, 0, 3), "1");
        }
    }

    /** "An HOUR: how many BOOTHS SINK". */
    private static void noneToTenSink() {
        for (int sink = 0; sink <= 10; sink++) {
            IceFair fair = Check.fairOn(10, 10, 90, 90, "near 0;");
            for (int i = 0; i < 10; i++) {
                fair.booth(1, false, 0);
                fair.set(i, i, (i * 3) % 10);
            }
            for (int i = 0; i < sink; i++) {
                fair.sound(i, (i * 3) % 10, i, (i * 3) % 10, 0, 0);
            }
            Check.due("hour(0)", fair.hour(0), sink);
            Check.due("SUNK", fair.count(2), sink);
            Check.due("SET", fair.count(1), 10 - sink);
            Check.due("hour(0), no more", fair.hour(0), 0);
        }
    }

    /** "become CRACKS at once": in whatever order they come. */
    private static void allBreakAtOnce() {
        int[][] pairs = {{0, 0, 1, 0}, {1, 0, 0, 0}, {0, 0, 0, 1}, {1, 1, 0, 0}, {2, 2, 1, 1}, {2, 1, 1, 2}};
        for (int[] pair : pairs) {
            IceFair fair = Check.fairOn(3, 3, 90, 90, "");
            fair.booth(25, false, 0);
            fair.booth(25, false, 0);
            fair.set(0, pair[0], pair[1]);
            fair.set(1, pair[2], pair[3]);
            // Each cell bears 121: one of them, and not its neighbour's share of 25 or 50 too.
            fair.sound(pair[0], pair[1], pair[0], pair[1], 11, 90);
            fair.sound(pair[2], pair[3], pair[2], pair[3], 11, 90);
            Check.due("both sink", fair.hour(0), 2);
            Check.due("CRACKS", fair.count(3), 2);
        }
    }

    private static void whatSinksStrainsNoMore() {
        // The cell between bears one of the two: one that sinks in the same hour still strains it.
        IceFair fair = Check.fairOn(3, 3, 90, 90, "near 0;");
        fair.booth(25, false, 0);
        fair.booth(25, false, 0);
        fair.set(0, 0, 1);
        fair.set(1, 2, 1);
        fair.sound(0, 1, 0, 1, 0, 0);
        fair.sound(1, 1, 1, 1, 9, 90);
        Check.due("one sinks", fair.hour(0), 1);
        Check.dueText("between them", Check.cell(fair, 1, 1, 2), "1");
        Check.dueText("STRAIN of the other alone", Check.cell(fair, 1, 1, 3), "50");
        Check.due("CRACKS", fair.count(3), 2);
        fair.sound(1, 1, 1, 1, 99, 99);
        Check.due("it heals", fair.hour(0), 0);
        fair.sound(1, 1, 1, 1, 8, 90);
        Check.due("and holds the other", fair.hour(0), 0);
        Check.dueText("between them", Check.cell(fair, 1, 1, 2), "0");
    }

    private static void firesBurnBeforeTheySink() {
        IceFair fair = Check.fairOn(3, 3, 50, 50, "melt 2 3;");
        fair.booth(1, true, 0);
        fair.set(0, 1, 1);
        fair.sound(1, 1, 1, 1, 3, 3);
        Check.due("hour(-1)", fair.hour(-1), 1);
        Check.dueText("beside it", Check.cell(fair, 1, 0, 0), "46");
        Check.dueText("its own", Check.cell(fair, 1, 1, 1), "0");
        Check.due("hour(-1)", fair.hour(-1), 0);
        Check.dueText("beside it, the FIRE is out", Check.cell(fair, 1, 0, 0), "45");
    }

    /** "Who has to MOVE": at once when the CRACK comes, and no more when it is healed. */
    private static void moveWhenACrackComes() {
        IceFair fair = Check.fairOn(5, 3, 50, 50, "near 3;heal 60;");
        fair.booth(1, false, 0);
        fair.booth(1, false, 0);
        fair.set(0, 2, 1);
        fair.set(1, 3, 1);
        fair.sound(0, 0, 0, 0, 0, 0);
        Check.due("before the hour", fair.count(8), 0);
        fair.hour(0);
        Check.due("behind it", fair.count(8), 1);
        Check.dueText("two off", Check.look(fair, 0, 3), "1");
        Check.dueText("three off", Check.look(fair, 1, 3), "0");
        fair.sound(0, 0, 0, 0, 60, 60);
        Check.due("until it is healed", fair.count(8), 1);
        fair.hour(0);
        Check.due("when it is healed", fair.count(8), 0);
    }

    /** "HOURS on this ICE". */
    private static void hoursAreCounted() {
        IceFair fair = new IceFair();
        for (int hour = 1; hour <= 100; hour++) {
            fair.hour(hour % 19 - 9);
            Check.due("HOURS", fair.count(4), hour);
        }
        fair.hour(10);
        Check.due("HOURS, one is none", fair.count(4), 100);
        fair.ice(2, 3);
        Check.due("HOURS, no new ICE", fair.count(4), 100);
        fair.ice(3, 3);
        Check.due("HOURS on new ICE", fair.count(4), 0);
        fair.hour(-9);
        Check.due("HOURS on new ICE", fair.count(4), 1);
    }
}
