import java.util.Random;

/** Chance calls, always the same ones, on the class and on the plain model: 512 on each object. */
public final class ModelTest {
    private static final int RUNS = 2500;
    private static final int MOST_CALLS = 512;
    private static final int ENOUGH_FOR_A_STEP = 60;
    private static final String SIGNS = "abehlmnprtsif 0123456789;;;\nX-";
    private static final int[] EDGES = {
        Integer.MIN_VALUE, Integer.MIN_VALUE + 1, -100, -11, -10, -9, -2, -1, 0, 1, 2, 3, 4, 5, 6, 8, 9, 10, 11, 50, 51,
        99, 100, 255, 256, 400, 401, 65536, Integer.MAX_VALUE - 1, Integer.MAX_VALUE};

    private final Random chance;
    private final IceFair fair = new IceFair();
    private final PlainFair plain = new PlainFair();
    private final String run;
    private int calls = 0;

    private ModelTest(int seed) {
        chance = new Random(seed);
        run = "run " + seed + ", ";
    }

    public static void main(String[] args) {
        for (int seed = 1; seed <= RUNS; seed++) {
            new ModelTest(seed).play();
        }
        Check.end();
    }

    private int below(int bound) {
        return chance.nextInt(bound);
    }

    /** Now and then a number at an edge in place of the usual one. */
    private int orEdge(int usual) {
        return below(40) == 0 ? EDGES[below(EDGES.length)] : usual;
    }

    private int place() {
        return orEdge(below(below(4) == 0 ? 12 : 6) - (below(20) == 0 ? 1 : 0));
    }

    private void play() {
        boolean thick = chance.nextBoolean();
        begin(thick);
        for (int step = 0; calls < MOST_CALLS - ENOUGH_FOR_A_STEP; step++) {
            step(step, thick);
            for (int i = below(5); i > 0; i--) {
                ask(step);
            }
        }
        while (calls < MOST_CALLS) {
            ask(-1);
        }
    }

    private void begin(boolean thick) {
        int w = 3 + below(8);
        int h = 3 + below(8);
        calls += 2;
        Check.due(run + "ice", fair.ice(w, h), plain.ice(w, h));
        int low = thick ? 20 + below(40) : 5 + below(20);
        Check.due(run + "sound", fair.sound(0, 0, w - 1, h - 1, low, low + 10),
            plain.sound(0, 0, w - 1, h - 1, low, low + 10));
        for (int i = below(8); i > 0; i--) {
            booth();
        }
        tellCustoms(soundText());
    }

    private void step(int call, boolean thick) {
        String at = run + "call " + call + " ";
        switch (below(14)) {
            case 0:
                tellCustoms(below(3) == 0 ? soundText() : spoiltText());
                break;
            case 1:
                if (below(12) == 0) {
                    begin(thick);
                } else {
                    iceOfNone(at);
                }
                break;
            case 2:
                int x0 = place();
                int y0 = place();
                int x1 = orEdge(x0 + below(3));
                int y1 = orEdge(y0 + below(2));
                int low = orEdge(below(3) == 0 ? 0 : below(60));
                int high = orEdge(below(4) == 0 ? low : low + below(45) - 2);
                Check.due(at + "sound", fair.sound(x0, y0, x1, y1, low, high), plain.sound(x0, y0, x1, y1, low, high));
                break;
            case 3:
                booth();
                break;
            case 4:
            case 5:
            case 6:
            case 7:
                int booth = orEdge(below(11));
                int x = place();
                int y = place();
                Check.due(at + "set", fair.set(booth, x, y), plain.set(booth, x, y));
                break;
            case 8:
                int gone = orEdge(below(11));
                Check.due(at + "clear", fair.clear(gone), plain.clear(gone));
                break;
            case 9:
                int mild = below(below(3) == 0 ? 19 : 7) - (below(2) == 0 ? 9 : 3);
                int cold = orEdge(mild);
                Check.due(at + "hour", fair.hour(cold), plain.hour(cold));
                break;
            case 10:
                if (below(3) == 0) {
                    Check.due(at + "lay", fair.lay(), plain.lay());
                    Check.due(at + "looks", fair.count(6), plain.count(6));
                    calls++;
                }
                break;
            case 11:
                Check.due(at + "soon", fair.soon(), plain.soon());
                break;
            case 12:
                Check.due(at + "proof", fair.proof(), plain.proof());
                break;
            default:
                int fault = orEdge(below(4) - 1);
                Check.due(at + "fault", fair.fault(fault), plain.fault(fault));
                break;
        }
        calls++;
    }

    private void iceOfNone(String at) {
        int none = below(2) == 0 ? 2 : 11;
        int other = EDGES[below(EDGES.length)];
        int w = below(2) == 0 ? none : other;
        int h = w == none ? other : none;
        Check.due(at + "ice", fair.ice(w, h), plain.ice(w, h));
    }

    private void ask(int step) {
        String at = run + "behind step " + step + " ";
        switch (below(3)) {
            case 0:
                int x = place();
                int y = place();
                int what = orEdge(below(8) - 1);
                Check.dueText(at + "cell", Check.cell(fair, x, y, what), plain.cell(x, y, what));
                break;
            case 1:
                int seen = orEdge(below(12) - 1);
                int of = orEdge(below(7) - 1);
                Check.dueText(at + "look", Check.look(fair, seen, of), plain.look(seen, of));
                break;
            default:
                int which = orEdge(below(12) - 1);
                Check.due(at + "count " + which, fair.count(which), plain.count(which));
                break;
        }
        calls++;
    }

    private void booth() {
        calls++;
        int weight = orEdge(1 + below(below(2) == 0 ? 50 : 12));
        boolean fire = below(3) == 0;
        int crowd = orEdge(below(4) == 0 ? 0 : below(10) == 0 ? below(100) : below(12));
        Check.due(run + "booth", fair.booth(weight, fire, crowd), plain.booth(weight, fire, crowd));
    }

    private void tellCustoms(String text) {
        for (int[] five : Check.numbersOf(text)) {
            calls++;
            Check.due(run + "feed", fair.feed(five[0], five[1], five[2], five[3], five[4]), plain.feed(five));
        }
        calls += 3;
        int n = orEdge(below(12) == 0 ? text.length() + below(30) - 5 : text.length());
        Check.due(run + "customs of " + text, fair.customs(n), plain.customs(n));
        Check.due(run + "fault of " + text, fair.fault(0), plain.fault(0));
        Check.due(run + "place of the fault of " + text, fair.fault(1), plain.fault(1));
    }

    private String soundText() {
        StringBuilder text = new StringBuilder();
        String[] lines = {
            "bear " + (50 + below(200)) + ";", "melt " + below(5) + " " + below(4) + ";", "apart " + below(4) + ";",
            "near " + below(4) + ";", "heal " + (1 + below(40)) + ";", "fee " + below(9) + " " + below(9) + ";"};
        for (String line : lines) {
            if (below(2) == 0) {
                text.append(line).append(below(3) == 0 ? " \n" : "");
            }
        }
        int at = below(7);
        for (int i = below(5); i > 0; i--) {
            text.append("stair ").append((at + 3 * i) % 10).append(' ').append(below(7)).append(' ')
                .append(1 + below(4)).append(';');
        }
        return text.toString();
    }

    private String spoiltText() {
        StringBuilder text = new StringBuilder(soundText());
        for (int i = 1 + below(2); i > 0; i--) {
            char sign = SIGNS.charAt(below(SIGNS.length()));
            int place = text.length() == 0 ? 0 : below(text.length());
            switch (below(5)) {
                case 0:
                    text.insert(place, sign);
                    break;
                case 1:
                    text.insert(place, below(2) == 0 ? "stair 3 3 3;" : "near 1;");
                    break;
                case 2:
                    text.append(soundText());
                    break;
                case 3:
                    text.setLength(place);
                    break;
                default:
                    if (text.length() > 0) {
                        text.setCharAt(place, sign);
                    }
                    break;
            }
        }
        return text.toString();
    }
}
