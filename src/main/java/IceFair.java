import java.util.NoSuchElementException;

/** A fair on a frozen river: the calls of the document, over the parts that the classes inside hold. */
public final class IceFair {
    public static final int NONE = -1;

    private static final int NOT_SO_MANY = -2;
    private static final int SPENT = -2;

    private static final int MOST_SIDE = 10;
    private static final int LEAST_SIDE = 3;
    private static final int FIRST_SIDE = 5;
    private static final int MOST_CELLS = MOST_SIDE * MOST_SIDE;
    private static final int MOST_THICK = 99;
    private static final int MOST_BOOTHS = 10;
    private static final int MOST_STAIRS = 4;
    private static final int MOST_TAPE = 400;
    private static final int MOST_LOOKS = 20000;

    private static final int WAITS = 0;
    private static final int IS_SET = 1;
    private static final int SUNK = 2;

    private final Tape tape;
    private final CustomsReader reader;
    private final Customs draft;
    private final Fair fair;
    private final Laying laying;
    private final WayOff wayOff;

    public IceFair() {
        tape = new Tape();
        reader = new CustomsReader();
        draft = new Customs();
        fair = new Fair();
        laying = new Laying();
        wayOff = new WayOff();
    }

    public int feed(int a, int b, int c, int d, int e) {
        if (tape.length > MOST_TAPE - 20) {
            return NONE;
        }
        tape.append(a);
        tape.append(b);
        tape.append(c);
        tape.append(d);
        tape.append(e);
        return tape.length;
    }

    public int customs(int n) {
        if (n < 0 || n > tape.length) {
            return NOT_SO_MANY;
        }
        int lines = reader.read(tape.bytes, n, draft);
        tape.length = 0;
        // A text with a fault is no customs, so the earlier ones stay.
        if (lines != NONE) {
            fair.customs.copyFrom(draft);
        }
        return lines;
    }

    public int fault(int what) {
        switch (what) {
            case 0:
                return reader.faultKind;
            case 1:
                return reader.faultPlace;
            default:
                return NONE;
        }
    }

    public boolean ice(int w, int h) {
        if (w < LEAST_SIDE || w > MOST_SIDE || h < LEAST_SIDE || h > MOST_SIDE) {
            return false;
        }
        fair.renew(w, h);
        return true;
    }

    public boolean sound(int x0, int y0, int x1, int y1, int low, int high) {
        River river = fair.river;
        if (!river.has(x0, y0) || !river.has(x1, y1) || x0 > x1 || y0 > y1) {
            return false;
        }
        if (low < 0 || low > high || high > MOST_THICK) {
            return false;
        }
        for (int y = y0; y <= y1; y++) {
            for (int x = x0; x <= x1; x++) {
                river.makeThick(x, y, low, high);
            }
        }
        return true;
    }

    public int booth(int weight, boolean fire, int crowd) {
        if (weight < 1 || weight > 50 || crowd < 0 || crowd > 99) {
            return NONE;
        }
        return fair.addBooth(weight, fire, crowd);
    }

    public int set(int booth, int x, int y) {
        Booth chosen = fair.boothNumbered(booth);
        if (chosen == null || chosen.state != WAITS || !fair.maySet(chosen, x, y)) {
            return NONE;
        }
        fair.put(chosen, x, y);
        return fair.takeFee(chosen);
    }

    public boolean clear(int booth) {
        Booth chosen = fair.boothNumbered(booth);
        if (chosen == null || chosen.state != IS_SET) {
            return false;
        }
        fair.lift(chosen, WAITS);
        return true;
    }

    public int hour(int cold) {
        if (cold < -9 || cold > 9) {
            return NONE;
        }
        return fair.passHour(cold);
    }

    public int lay() {
        return laying.layAll(fair);
    }

    public int soon() {
        return wayOff.leastMinutes(fair);
    }

    public int proof() {
        int minutes = wayOff.leastMinutes(fair);
        return minutes <= 0 ? NONE : wayOff.leastLateGroup(fair, minutes);
    }

    public int cell(int x, int y, int what) throws IndexOutOfBoundsException, NoSuchElementException {
        River river = fair.river;
        if (!river.has(x, y)) {
            throw new IndexOutOfBoundsException("no such cell");
        }
        int spot = river.spotOf(x, y);
        switch (what) {
            case 0:
                return river.low[spot];
            case 1:
                return river.high[spot];
            case 2:
                return river.cracked[spot] ? 1 : 0;
            case 3:
                return river.strain[spot];
            case 4:
                return river.bearing(spot, fair.customs.bear());
            case 5:
                return river.guest[spot];
            default:
                throw new NoSuchElementException("no such what of a cell");
        }
    }

    public int look(int booth, int what) throws IndexOutOfBoundsException, NoSuchElementException {
        Booth seen = fair.boothNumbered(booth);
        if (seen == null) {
            throw new IndexOutOfBoundsException("no such booth");
        }
        switch (what) {
            case 0:
                return seen.state;
            case 1:
                return seen.x;
            case 2:
                return seen.y;
            case 3:
                return fair.hasToMove(seen) ? 1 : 0;
            case 4:
                return wayOff.stepsToNearest(fair, seen);
            default:
                throw new NoSuchElementException("no such what of a booth");
        }
    }

    public int count(int what) {
        switch (what) {
            case 0:
                return fair.boothCount;
            case 1:
                return fair.boothsInState(IS_SET);
            case 2:
                return fair.boothsInState(SUNK);
            case 3:
                return fair.river.crackCount();
            case 4:
                return fair.hours;
            case 5:
                return fair.fees;
            case 6:
                return laying.looks;
            case 7:
                return fair.customs.stairCount;
            case 8:
                return fair.boothsToMove();
            default:
                return NONE;
        }
    }

    /** The bytes that were fed and not yet read as customs. */
    private static final class Tape {
        final int[] bytes;
        int length;

        Tape() {
            bytes = new int[MOST_TAPE];
            length = 0;
        }

        void append(int number) {
            if (length < 0 || length > MOST_TAPE - 4) {
                return;
            }
            bytes[length] = (number >>> 24) & 255;
            bytes[length + 1] = (number >>> 16) & 255;
            bytes[length + 2] = (number >>> 8) & 255;
            bytes[length + 3] = number & 255;
            length += 4;
        }
    }

    /** The kinds of lines: the word, where the numbers are kept, how many, and their bounds. */
    private enum LineKind {
        BEAR("bear", 0, 1, 1, 999),
        MELT("melt", 1, 2, 0, 9),
        APART("apart", 3, 1, 0, 9),
        NEAR("near", 4, 1, 0, 4),
        HEAL("heal", 5, 1, 1, 99),
        FEE("fee", 6, 2, 0, 99),
        STAIR("stair", 8, 3, 0, 9);

        private static final LineKind[] ALL = values();

        final String word;
        final int slot;
        final int numbers;
        final int least;
        final int most;

        LineKind(String word, int slot, int numbers, int least, int most) {
            this.word = word;
            this.slot = slot;
            this.numbers = numbers;
            this.least = least;
            this.most = most;
        }

        boolean allows(int position, int value) {
            // A stair's third number is men a minute, not a place, so it has a bound of its own.
            int from = this == STAIR && position == 2 ? 1 : least;
            return value >= from && value <= most;
        }
    }

    /** What the lines of a text say; a line that is not told has its usual numbers. */
    private static final class Customs {
        private static final int[] USUAL = {100, 1, 0, 0, 1, 99, 1, 0};

        final int[] numbers;
        final int[] stairX;
        final int[] stairY;
        final int[] stairMen;
        int stairCount;
        int told;

        Customs() {
            numbers = new int[USUAL.length];
            stairX = new int[MOST_STAIRS];
            stairY = new int[MOST_STAIRS];
            stairMen = new int[MOST_STAIRS];
            forget();
        }

        void forget() {
            System.arraycopy(USUAL, 0, numbers, 0, USUAL.length);
            stairCount = 0;
            told = 0;
        }

        void copyFrom(Customs other) {
            System.arraycopy(other.numbers, 0, numbers, 0, USUAL.length);
            System.arraycopy(other.stairX, 0, stairX, 0, MOST_STAIRS);
            System.arraycopy(other.stairY, 0, stairY, 0, MOST_STAIRS);
            System.arraycopy(other.stairMen, 0, stairMen, 0, MOST_STAIRS);
            stairCount = other.stairCount;
            told = other.told;
        }

        boolean isTold(LineKind kind) {
            return (told & (1 << kind.slot)) != 0;
        }

        boolean hasStairAt(int x, int y) {
            for (int i = 0; i < stairCount && i < MOST_STAIRS; i++) {
                if (stairX[i] == x && stairY[i] == y) {
                    return true;
                }
            }
            return false;
        }

        void tell(LineKind kind, int[] read) {
            if (kind == LineKind.STAIR) {
                addStair(read);
                return;
            }
            told |= 1 << kind.slot;
            for (int i = 0; i < kind.numbers && i < read.length && kind.slot + i < numbers.length; i++) {
                numbers[kind.slot + i] = read[i];
            }
        }

        private void addStair(int[] read) {
            if (stairCount < 0 || stairCount >= MOST_STAIRS || read.length < 3) {
                return;
            }
            stairX[stairCount] = read[0];
            stairY[stairCount] = read[1];
            stairMen[stairCount] = read[2];
            stairCount++;
        }

        int bear() {
            return numbers[0];
        }

        int meltOn() {
            return numbers[1];
        }

        int meltBeside() {
            return numbers[2];
        }

        int apart() {
            return numbers[3];
        }

        int near() {
            return numbers[4];
        }

        int heal() {
            return numbers[5];
        }

        int feeByWeight() {
            return numbers[6];
        }

        int feeForFire() {
            return numbers[7];
        }
    }

    /** Reads a text token by token and keeps the latest text's fault. */
    private static final class CustomsReader {
        private static final int END = 0;
        private static final int WORD = 1;
        private static final int NUMBER = 2;
        private static final int SEMICOLON = 3;
        private static final int STRANGE = 4;

        private static final int BAD_TOKEN = 1;
        private static final int BEYOND = 2;
        private static final int TOLD_ALREADY = 3;

        // Above every bound of a number, so that a long row of digits can't wrap round into one.
        private static final int TOO_GREAT = 1000;

        int faultKind;
        int faultPlace;
        private final int[] values;
        private int[] text;
        private int length;
        private int next;
        private int token;
        private int start;
        private int value;

        CustomsReader() {
            faultKind = 0;
            faultPlace = NONE;
            values = new int[3];
            text = new int[0];
        }

        int read(int[] bytes, int n, Customs into) {
            text = bytes;
            length = n < bytes.length ? n : bytes.length;
            next = 0;
            faultKind = 0;
            faultPlace = NONE;
            into.forget();
            // A line takes some of the text, so there are fewer lines than signs.
            for (int lines = 0; lines <= length; lines++) {
                takeToken();
                if (token == END) {
                    return lines;
                }
                if (!readLine(into)) {
                    return NONE;
                }
            }
            return NONE;
        }

        private boolean readLine(Customs into) {
            LineKind kind = kindOfWord();
            if (kind == null) {
                return refuse(BAD_TOKEN, start);
            }
            if (kind == LineKind.STAIR && into.stairCount >= MOST_STAIRS) {
                return refuse(BEYOND, start);
            }
            if (into.isTold(kind)) {
                return refuse(TOLD_ALREADY, start);
            }
            if (!readNumbers(kind, into)) {
                return false;
            }
            takeToken();
            if (token != SEMICOLON) {
                return refuse(BAD_TOKEN, start);
            }
            into.tell(kind, values);
            return true;
        }

        private boolean readNumbers(LineKind kind, Customs into) {
            int firstPlace = next;
            for (int i = 0; i < kind.numbers && i < values.length; i++) {
                takeToken();
                if (token != NUMBER) {
                    return refuse(BAD_TOKEN, start);
                }
                if (!kind.allows(i, value)) {
                    return refuse(BEYOND, start);
                }
                values[i] = value;
                if (i == 0) {
                    firstPlace = start;
                }
                if (kind == LineKind.STAIR && i == 1 && into.hasStairAt(values[0], values[1])) {
                    return refuse(TOLD_ALREADY, firstPlace);
                }
            }
            return true;
        }

        private boolean refuse(int kind, int place) {
            faultKind = kind;
            faultPlace = place;
            return false;
        }

        private LineKind kindOfWord() {
            if (token != WORD) {
                return null;
            }
            for (LineKind kind : LineKind.ALL) {
                if (isWord(kind.word)) {
                    return kind;
                }
            }
            return null;
        }

        private boolean isWord(String word) {
            if (next - start != word.length()) {
                return false;
            }
            for (int i = 0; i < word.length(); i++) {
                if (signAt(start + i) != word.charAt(i)) {
                    return false;
                }
            }
            return true;
        }

        private void takeToken() {
            while (next < length && isBlank(signAt(next))) {
                next++;
            }
            start = next;
            if (next >= length) {
                token = END;
            } else if (isLetter(signAt(next))) {
                takeWord();
            } else if (isDigit(signAt(next))) {
                takeNumber();
            } else {
                token = signAt(next) == ';' ? SEMICOLON : STRANGE;
                next++;
            }
        }

        private void takeWord() {
            token = WORD;
            while (next < length && isLetter(signAt(next))) {
                next++;
            }
        }

        private void takeNumber() {
            token = NUMBER;
            value = 0;
            while (next < length && isDigit(signAt(next))) {
                value = Math.min(TOO_GREAT, value * 10 + signAt(next) - '0');
                next++;
            }
        }

        private int signAt(int place) {
            return place >= 0 && place < length && place < text.length ? text[place] : NONE;
        }

        private static boolean isBlank(int sign) {
            return sign == 10 || sign == 32;
        }

        private static boolean isLetter(int sign) {
            return sign >= 'a' && sign <= 'z';
        }

        private static boolean isDigit(int sign) {
            return sign >= '0' && sign <= '9';
        }
    }

    /** The cells of ice and what lies on them; a cell's spot is its place in the rows. */
    private static final class River {
        int width;
        int height;
        final int[] low;
        final int[] high;
        final int[] strain;
        final int[] guest;
        final boolean[] cracked;
        private final boolean[] breaking;

        River() {
            low = new int[MOST_CELLS];
            high = new int[MOST_CELLS];
            strain = new int[MOST_CELLS];
            guest = new int[MOST_CELLS];
            cracked = new boolean[MOST_CELLS];
            breaking = new boolean[MOST_CELLS];
            renew(FIRST_SIDE, FIRST_SIDE);
        }

        void renew(int newWidth, int newHeight) {
            width = newWidth;
            height = newHeight;
            for (int spot = 0; spot < MOST_CELLS; spot++) {
                low[spot] = 0;
                high[spot] = 0;
                strain[spot] = 0;
                guest[spot] = NONE;
                cracked[spot] = false;
            }
        }

        boolean has(int x, int y) {
            return x >= 0 && x < width && y >= 0 && y < height;
        }

        /** For a cell that the river has. */
        int spotOf(int x, int y) {
            return y * MOST_SIDE + x;
        }

        boolean isFirm(int x, int y) {
            if (!has(x, y)) {
                return false;
            }
            int spot = spotOf(x, y);
            return low[spot] > 0 && !cracked[spot];
        }

        boolean isOpen(int x, int y) {
            return isFirm(x, y) && guest[spotOf(x, y)] == NONE;
        }

        int guestAt(int x, int y) {
            return has(x, y) ? guest[spotOf(x, y)] : NONE;
        }

        int bearing(int spot, int bear) {
            return low[spot] * low[spot] * bear / 100;
        }

        void makeThick(int x, int y, int newLow, int newHigh) {
            if (has(x, y)) {
                low[spotOf(x, y)] = newLow;
                high[spotOf(x, y)] = newHigh;
            }
        }

        void thicken(int x, int y, int change) {
            if (has(x, y)) {
                int spot = spotOf(x, y);
                makeThick(x, y, withinBounds(low[spot] + change), withinBounds(high[spot] + change));
            }
        }

        private static int withinBounds(int thick) {
            return Math.max(0, Math.min(MOST_THICK, thick));
        }

        /** How many times a weight counts so far from its cell: 4, 2 beside, 1 across. */
        private static int share(int dx, int dy) {
            return (dx == 0 ? 2 : 1) * (dy == 0 ? 2 : 1);
        }

        void load(int x, int y, int weight) {
            for (int dy = -1; dy <= 1; dy++) {
                for (int dx = -1; dx <= 1; dx++) {
                    if (has(x + dx, y + dy)) {
                        strain[spotOf(x + dx, y + dy)] += weight * share(dx, dy);
                    }
                }
            }
        }

        boolean bearsAlso(int x, int y, int weight, int bear) {
            for (int dy = -1; dy <= 1; dy++) {
                for (int dx = -1; dx <= 1; dx++) {
                    if (has(x + dx, y + dy)) {
                        int spot = spotOf(x + dx, y + dy);
                        if (strain[spot] + weight * share(dx, dy) > bearing(spot, bear)) {
                            return false;
                        }
                    }
                }
            }
            return true;
        }

        boolean bearsAll(int bear) {
            for (int y = 0; y < height; y++) {
                for (int x = 0; x < width; x++) {
                    int spot = spotOf(x, y);
                    if (strain[spot] > bearing(spot, bear)) {
                        return false;
                    }
                }
            }
            return true;
        }

        boolean hasCrackNearerThan(int far, int x, int y) {
            for (int dy = 1 - far; dy < far; dy++) {
                for (int dx = 1 - far; dx < far; dx++) {
                    if (has(x + dx, y + dy) && cracked[spotOf(x + dx, y + dy)]) {
                        return true;
                    }
                }
            }
            return false;
        }

        int crackCount() {
            int found = 0;
            for (int spot = 0; spot < MOST_CELLS; spot++) {
                if (cracked[spot]) {
                    found++;
                }
            }
            return found;
        }

        void healFrom(int leastLow) {
            for (int spot = 0; spot < MOST_CELLS; spot++) {
                if (low[spot] >= leastLow) {
                    cracked[spot] = false;
                }
            }
        }

        /** Marks what breaks before any of it does, since all of it breaks at once. */
        boolean markBreaking(int bear) {
            boolean any = false;
            for (int y = 0; y < height; y++) {
                for (int x = 0; x < width; x++) {
                    int spot = spotOf(x, y);
                    boolean tooMuch = strain[spot] > bearing(spot, bear) || high[spot] == 0;
                    breaking[spot] = tooMuch && !cracked[spot];
                    any = any || breaking[spot];
                }
            }
            return any;
        }

        boolean crackIfMarked(int x, int y) {
            if (!has(x, y) || !breaking[spotOf(x, y)]) {
                return false;
            }
            cracked[spotOf(x, y)] = true;
            return true;
        }
    }

    /** A booth; x and y are NONE unless it is set. */
    private static final class Booth {
        int number;
        int weight;
        boolean fire;
        int crowd;
        int state;
        int x;
        int y;
    }

    /** The booths on the river under the customs, with the hours and the fees. */
    private static final class Fair {
        final Customs customs;
        final River river;
        final Booth[] booths;
        int boothCount;
        int hours;
        int fees;

        Fair() {
            customs = new Customs();
            river = new River();
            booths = new Booth[MOST_BOOTHS];
            for (int i = 0; i < MOST_BOOTHS; i++) {
                booths[i] = new Booth();
            }
        }

        void renew(int width, int height) {
            river.renew(width, height);
            boothCount = 0;
            hours = 0;
            fees = 0;
        }

        Booth boothNumbered(int number) {
            if (number < 0 || number >= boothCount || number >= MOST_BOOTHS) {
                return null;
            }
            return booths[number];
        }

        int addBooth(int weight, boolean fire, int crowd) {
            if (boothCount < 0 || boothCount >= MOST_BOOTHS) {
                return NONE;
            }
            Booth added = booths[boothCount];
            added.number = boothCount;
            added.weight = weight;
            added.fire = fire;
            added.crowd = crowd;
            added.state = WAITS;
            added.x = NONE;
            added.y = NONE;
            boothCount++;
            return added.number;
        }

        boolean maySet(Booth booth, int x, int y) {
            return river.isOpen(x, y)
                && !river.hasCrackNearerThan(customs.near(), x, y)
                && river.bearsAll(customs.bear())
                && suits(booth, x, y);
        }

        /** What may forbid an open cell far from cracks while all the ice bears what is set. */
        boolean suits(Booth booth, int x, int y) {
            return (!booth.fire || !hasFireNearerThan(customs.apart(), x, y))
                && river.bearsAlso(x, y, booth.weight, customs.bear());
        }

        private boolean hasFireNearerThan(int far, int x, int y) {
            for (int i = 0; i < boothCount && i < MOST_BOOTHS; i++) {
                Booth other = booths[i];
                if (other.state == IS_SET && other.fire
                        && Math.max(Math.abs(other.x - x), Math.abs(other.y - y)) < far) {
                    return true;
                }
            }
            return false;
        }

        /** For a cell that the river has. */
        void put(Booth booth, int x, int y) {
            if (!river.has(x, y)) {
                return;
            }
            booth.state = IS_SET;
            booth.x = x;
            booth.y = y;
            river.guest[river.spotOf(x, y)] = booth.number;
            river.load(x, y, booth.weight);
        }

        void lift(Booth booth, int newState) {
            if (!river.has(booth.x, booth.y)) {
                return;
            }
            river.guest[river.spotOf(booth.x, booth.y)] = NONE;
            river.load(booth.x, booth.y, -booth.weight);
            booth.state = newState;
            booth.x = NONE;
            booth.y = NONE;
        }

        int takeFee(Booth booth) {
            int fee = customs.feeByWeight() * booth.weight + (booth.fire ? customs.feeForFire() : 0);
            fees += fee;
            return fee;
        }

        boolean hasToMove(Booth booth) {
            return booth.state == IS_SET && river.hasCrackNearerThan(customs.near(), booth.x, booth.y);
        }

        int boothsToMove() {
            int found = 0;
            for (int i = 0; i < boothCount && i < MOST_BOOTHS; i++) {
                if (hasToMove(booths[i])) {
                    found++;
                }
            }
            return found;
        }

        int boothsInState(int state) {
            int found = 0;
            for (int i = 0; i < boothCount && i < MOST_BOOTHS; i++) {
                if (booths[i].state == state) {
                    found++;
                }
            }
            return found;
        }

        int passHour(int cold) {
            hours++;
            river.healFrom(customs.heal());
            for (int y = 0; y < river.height; y++) {
                for (int x = 0; x < river.width; x++) {
                    river.thicken(x, y, cold - meltAt(x, y));
                }
            }
            int sunk = 0;
            // Each round cracks a cell at least, so there are no more rounds than cells.
            for (int round = 0; round < MOST_CELLS && river.markBreaking(customs.bear()); round++) {
                sunk += breakMarked();
            }
            return sunk;
        }

        private int meltAt(int x, int y) {
            int beside = fireAt(x - 1, y) + fireAt(x + 1, y) + fireAt(x, y - 1) + fireAt(x, y + 1);
            return fireAt(x, y) * customs.meltOn() + beside * customs.meltBeside();
        }

        private int fireAt(int x, int y) {
            Booth booth = boothNumbered(river.guestAt(x, y));
            return booth != null && booth.fire ? 1 : 0;
        }

        private int breakMarked() {
            int sunk = 0;
            for (int y = 0; y < river.height; y++) {
                for (int x = 0; x < river.width; x++) {
                    if (river.crackIfMarked(x, y)) {
                        sunk += sinkAt(x, y);
                    }
                }
            }
            return sunk;
        }

        private int sinkAt(int x, int y) {
            Booth booth = boothNumbered(river.guestAt(x, y));
            if (booth == null) {
                return 0;
            }
            lift(booth, SUNK);
            return 1;
        }
    }

    /** The search for the first row of cells at which all that wait may be set. */
    private static final class Laying {
        // A step sets a booth, which costs a look, or takes back one that was set.
        private static final int MOST_STEPS = 2 * MOST_LOOKS + 100;

        int looks;
        private final int[] waiting;
        private int waitingCount;
        private final int[] openX;
        private final int[] openY;
        private final boolean[] farFromCracks;
        private int openCount;
        private final int[] tried;
        private boolean allBears;

        Laying() {
            waiting = new int[MOST_BOOTHS];
            openX = new int[MOST_CELLS];
            openY = new int[MOST_CELLS];
            farFromCracks = new boolean[MOST_CELLS];
            tried = new int[MOST_BOOTHS];
        }

        int layAll(Fair fair) {
            looks = 0;
            gatherWaiting(fair);
            gatherOpen(fair);
            allBears = fair.river.bearsAll(fair.customs.bear());
            if (!findRow(fair)) {
                takeBackAll(fair);
                return looks > MOST_LOOKS ? SPENT : NONE;
            }
            takeFees(fair);
            return waitingCount;
        }

        private void gatherWaiting(Fair fair) {
            waitingCount = 0;
            for (int i = 0; i < fair.boothCount && i < MOST_BOOTHS; i++) {
                if (fair.booths[i].state == WAITS) {
                    waiting[waitingCount] = i;
                    waitingCount++;
                }
            }
        }

        /** What no booth that is laid can change is found once, not at each look. */
        private void gatherOpen(Fair fair) {
            openCount = 0;
            for (int y = 0; y < fair.river.height; y++) {
                for (int x = 0; x < fair.river.width; x++) {
                    if (fair.river.isOpen(x, y) && openCount < MOST_CELLS) {
                        openX[openCount] = x;
                        openY[openCount] = y;
                        farFromCracks[openCount] = !fair.river.hasCrackNearerThan(fair.customs.near(), x, y);
                        openCount++;
                    }
                }
            }
        }

        private boolean findRow(Fair fair) {
            int turn = 0;
            tried[0] = NONE;
            for (int step = 0; step < MOST_STEPS && turn < waitingCount && turn < MOST_BOOTHS; step++) {
                if (setNext(fair, turn)) {
                    turn++;
                    if (turn < MOST_BOOTHS) {
                        tried[turn] = NONE;
                    }
                } else {
                    turn--;
                    if (turn < 0 || looks > MOST_LOOKS) {
                        return false;
                    }
                    takeBack(fair, turn);
                }
            }
            return turn >= waitingCount;
        }

        /** Sets the booth of this turn at the next cell, behind those tried, that it may have. */
        private boolean setNext(Fair fair, int turn) {
            Booth booth = fair.boothNumbered(waiting[turn]);
            if (booth == null) {
                return false;
            }
            for (int i = Math.max(0, tried[turn] + 1); i < openCount && i < MOST_CELLS; i++) {
                // A booth of an earlier turn may have taken it.
                if (!fair.river.isOpen(openX[i], openY[i])) {
                    continue;
                }
                looks++;
                if (looks > MOST_LOOKS) {
                    return false;
                }
                if (allBears && farFromCracks[i] && fair.suits(booth, openX[i], openY[i])) {
                    tried[turn] = i;
                    fair.put(booth, openX[i], openY[i]);
                    return true;
                }
            }
            return false;
        }

        private void takeBack(Fair fair, int turn) {
            Booth booth = fair.boothNumbered(waiting[turn]);
            if (booth != null) {
                fair.lift(booth, WAITS);
            }
        }

        private void takeBackAll(Fair fair) {
            for (int turn = 0; turn < waitingCount && turn < MOST_BOOTHS; turn++) {
                takeBack(fair, turn);
            }
        }

        private void takeFees(Fair fair) {
            for (int turn = 0; turn < waitingCount && turn < MOST_BOOTHS; turn++) {
                Booth booth = fair.boothNumbered(waiting[turn]);
                if (booth != null) {
                    fair.takeFee(booth);
                }
            }
        }
    }

    /** How all can be off by the stairs. */
    private static final class WayOff {
        // All 990 men one a minute behind the longest way, and some more.
        private static final int MOST_MINUTES = 2000;

        private final int[] steps;
        private final int[] queue;
        private int queued;
        private final int[] stepsOfBooth;
        private final int[] firstSteps;
        private int crowded;

        WayOff() {
            steps = new int[MOST_CELLS];
            queue = new int[MOST_CELLS];
            stepsOfBooth = new int[MOST_BOOTHS * MOST_STAIRS];
            firstSteps = new int[MOST_STAIRS];
        }

        int stepsToNearest(Fair fair, Booth booth) {
            int nearest = NONE;
            if (booth.state != IS_SET) {
                return NONE;
            }
            for (int stair = 0; stair < fair.customs.stairCount && stair < MOST_STAIRS; stair++) {
                spreadFrom(fair, stair);
                nearest = nearer(nearest, stepsFrom(fair.river, booth.x, booth.y));
            }
            return nearest;
        }

        int leastMinutes(Fair fair) {
            measure(fair);
            if (hasSomebodyStuck(fair)) {
                return NONE;
            }
            // The men of every group of booths have to fit, and by Hall that is also enough.
            int minutes = 0;
            for (int group = 1; group < 1 << fair.boothCount; group++) {
                if ((group & ~crowded) == 0) {
                    noteFirstSteps(fair, group);
                    minutes = minutesFor(fair, menOf(fair, group), minutes);
                }
            }
            return minutes;
        }

        /** Stands on what leastMinutes has measured. */
        int leastLateGroup(Fair fair, int minutes) {
            for (int group = 1; group < 1 << fair.boothCount; group++) {
                if ((group & ~crowded) == 0) {
                    noteFirstSteps(fair, group);
                    if (menOf(fair, group) > menLetOff(fair, minutes - 1)) {
                        return group;
                    }
                }
            }
            return NONE;
        }

        private void measure(Fair fair) {
            crowded = 0;
            for (int i = 0; i < fair.boothCount && i < MOST_BOOTHS; i++) {
                if (fair.booths[i].state == IS_SET && fair.booths[i].crowd > 0) {
                    crowded |= 1 << i;
                }
            }
            for (int stair = 0; stair < fair.customs.stairCount && stair < MOST_STAIRS; stair++) {
                spreadFrom(fair, stair);
                for (int i = 0; i < fair.boothCount && i < MOST_BOOTHS; i++) {
                    Booth booth = fair.booths[i];
                    stepsOfBooth[i * MOST_STAIRS + stair] = stepsFrom(fair.river, booth.x, booth.y);
                }
            }
        }

        private boolean hasSomebodyStuck(Fair fair) {
            for (int i = 0; i < fair.boothCount && i < MOST_BOOTHS; i++) {
                if ((crowded >> i & 1) == 1 && !reachesSomeStair(fair, i)) {
                    return true;
                }
            }
            return false;
        }

        private boolean reachesSomeStair(Fair fair, int number) {
            for (int stair = 0; stair < fair.customs.stairCount && stair < MOST_STAIRS; stair++) {
                if (stepsOfBooth[number * MOST_STAIRS + stair] != NONE) {
                    return true;
                }
            }
            return false;
        }

        /** The steps from each firm cell to this stair; NONE where no way leads. */
        private void spreadFrom(Fair fair, int stair) {
            for (int spot = 0; spot < MOST_CELLS; spot++) {
                steps[spot] = NONE;
            }
            queued = 0;
            reach(fair.river, fair.customs.stairX[stair], fair.customs.stairY[stair], 0);
            for (int done = 0; done < queued && done < MOST_CELLS; done++) {
                int x = queue[done] % MOST_SIDE;
                int y = queue[done] / MOST_SIDE;
                int further = steps[queue[done]] + 1;
                reach(fair.river, x - 1, y, further);
                reach(fair.river, x + 1, y, further);
                reach(fair.river, x, y - 1, further);
                reach(fair.river, x, y + 1, further);
            }
        }

        private void reach(River river, int x, int y, int taken) {
            if (!river.isFirm(x, y) || steps[river.spotOf(x, y)] != NONE || queued >= MOST_CELLS) {
                return;
            }
            steps[river.spotOf(x, y)] = taken;
            queue[queued] = river.spotOf(x, y);
            queued++;
        }

        /** The steps of a man who starts here: his own cell need not be firm, only those he steps on. */
        private int stepsFrom(River river, int x, int y) {
            if (stepsAt(river, x, y) != NONE) {
                return stepsAt(river, x, y);
            }
            if (!river.has(x, y)) {
                return NONE;
            }
            int besides = nearer(stepsAt(river, x - 1, y), stepsAt(river, x + 1, y));
            besides = nearer(besides, nearer(stepsAt(river, x, y - 1), stepsAt(river, x, y + 1)));
            return besides == NONE ? NONE : besides + 1;
        }

        private int stepsAt(River river, int x, int y) {
            return river.has(x, y) ? steps[river.spotOf(x, y)] : NONE;
        }

        private static int nearer(int one, int other) {
            if (one == NONE || other == NONE) {
                return one == NONE ? other : one;
            }
            return Math.min(one, other);
        }

        /** For each stair the steps of the first of the group, NONE where none of it can come. */
        private void noteFirstSteps(Fair fair, int group) {
            for (int stair = 0; stair < fair.customs.stairCount && stair < MOST_STAIRS; stair++) {
                int first = NONE;
                for (int i = 0; i < fair.boothCount && i < MOST_BOOTHS; i++) {
                    if ((group >> i & 1) == 1) {
                        first = nearer(first, stepsOfBooth[i * MOST_STAIRS + stair]);
                    }
                }
                firstSteps[stair] = first;
            }
        }

        private static int menOf(Fair fair, int group) {
            int men = 0;
            for (int i = 0; i < fair.boothCount && i < MOST_BOOTHS; i++) {
                if ((group >> i & 1) == 1) {
                    men += fair.booths[i].crowd;
                }
            }
            return men;
        }

        private int menLetOff(Fair fair, int minutes) {
            int men = 0;
            for (int stair = 0; stair < fair.customs.stairCount && stair < MOST_STAIRS; stair++) {
                if (firstSteps[stair] != NONE && firstSteps[stair] < minutes) {
                    men += fair.customs.stairMen[stair] * (minutes - firstSteps[stair]);
                }
            }
            return men;
        }

        private int minutesFor(Fair fair, int men, int atLeast) {
            int minutes = atLeast;
            while (minutes < MOST_MINUTES && menLetOff(fair, minutes) < men) {
                minutes++;
            }
            return minutes;
        }
    }
}
