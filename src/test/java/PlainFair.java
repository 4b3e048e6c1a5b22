import java.util.ArrayList;
import java.util.Arrays;
import java.util.HashMap;
import java.util.HashSet;
import java.util.List;
import java.util.Map;
import java.util.Set;
import java.util.regex.Matcher;
import java.util.regex.Pattern;

/** A slow model of the document: all is found anew from its words, nothing is kept that can be found. */
final class PlainFair {
    static final String INDEX = Check.INDEX;
    static final String ELEMENT = Check.ELEMENT;

    private static final Pattern TOKEN = Pattern.compile("[a-z]+|[0-9]+|;|[^ \\n]", Pattern.DOTALL);
    private static final Map<String, int[][]> BOUNDS = new HashMap<>();

    static {
        BOUNDS.put("bear", new int[][] {{1, 999}});
        BOUNDS.put("melt", new int[][] {{0, 9}, {0, 9}});
        BOUNDS.put("apart", new int[][] {{0, 9}});
        BOUNDS.put("near", new int[][] {{0, 4}});
        BOUNDS.put("heal", new int[][] {{1, 99}});
        BOUNDS.put("fee", new int[][] {{0, 99}, {0, 99}});
        BOUNDS.put("stair", new int[][] {{0, 9}, {0, 9}, {1, 9}});
    }

    private static final class Stand {
        int weight;
        boolean fire;
        int crowd;
        int state;
        int x = -1;
        int y = -1;
    }

    private String tape = "";
    private Map<String, int[]> told = new HashMap<>();
    private List<int[]> stairs = new ArrayList<>();
    private int faultKind = 0;
    private int faultPlace = -1;
    private int w = 5;
    private int h = 5;
    private int[][] low = new int[5][5];
    private int[][] high = new int[5][5];
    private boolean[][] crack = new boolean[5][5];
    private final List<Stand> stands = new ArrayList<>();
    private int hours;
    private int fees;
    private int looks;

    int feed(int... five) {
        if (tape.length() + 20 > 400) {
            return -1;
        }
        StringBuilder all = new StringBuilder(tape);
        for (int number : five) {
            for (int shift = 24; shift >= 0; shift -= 8) {
                all.append((char) (number >> shift & 0xFF));
            }
        }
        tape = all.toString();
        return tape.length();
    }

    int customs(int n) {
        if (n < 0 || n > tape.length()) {
            return -2;
        }
        String text = tape.substring(0, n);
        tape = "";
        Map<String, int[]> lines = new HashMap<>();
        List<int[]> newStairs = new ArrayList<>();
        int[] fault = firstFault(text, lines, newStairs);
        faultKind = fault == null ? 0 : fault[0];
        faultPlace = fault == null ? -1 : fault[1];
        if (fault != null) {
            return -1;
        }
        told = lines;
        stairs = newStairs;
        return told.size() + stairs.size();
    }

    private static int[] firstFault(String text, Map<String, int[]> lines, List<int[]> newStairs) {
        Matcher token = TOKEN.matcher(text);
        String word = null;
        List<Integer> numbers = new ArrayList<>();
        int firstPlace = -1;
        while (token.find()) {
            String sign = token.group();
            int place = token.start();
            if (word == null) {
                if (!BOUNDS.containsKey(sign)) {
                    return new int[] {1, place};
                }
                if (sign.equals("stair") && newStairs.size() == 4) {
                    return new int[] {2, place};
                }
                if (lines.containsKey(sign)) {
                    return new int[] {3, place};
                }
                word = sign;
                numbers.clear();
                continue;
            }
            int[][] bounds = BOUNDS.get(word);
            if (numbers.size() == bounds.length) {
                if (!sign.equals(";")) {
                    return new int[] {1, place};
                }
                int[] row = numbers.stream().mapToInt(Integer::intValue).toArray();
                if (word.equals("stair")) {
                    newStairs.add(row);
                } else {
                    lines.put(word, row);
                }
                word = null;
                continue;
            }
            if (!sign.matches("[0-9]+")) {
                return new int[] {1, place};
            }
            java.math.BigInteger value = new java.math.BigInteger(sign);
            int[] bound = bounds[numbers.size()];
            if (value.compareTo(java.math.BigInteger.valueOf(bound[0])) < 0
                    || value.compareTo(java.math.BigInteger.valueOf(bound[1])) > 0) {
                return new int[] {2, place};
            }
            if (numbers.isEmpty()) {
                firstPlace = place;
            }
            numbers.add(value.intValue());
            if (word.equals("stair") && numbers.size() == 2) {
                for (int[] stair : newStairs) {
                    if (stair[0] == numbers.get(0) && stair[1] == numbers.get(1)) {
                        return new int[] {3, firstPlace};
                    }
                }
            }
        }
        return word == null ? null : new int[] {1, text.length()};
    }

    private int custom(String word, int which, int usual) {
        int[] row = told.get(word);
        return row == null ? usual : row[which];
    }

    int fault(int what) {
        return what == 0 ? faultKind : what == 1 ? faultPlace : -1;
    }

    boolean ice(int newW, int newH) {
        if (newW < 3 || newW > 10 || newH < 3 || newH > 10) {
            return false;
        }
        w = newW;
        h = newH;
        low = new int[h][w];
        high = new int[h][w];
        crack = new boolean[h][w];
        stands.clear();
        hours = 0;
        fees = 0;
        return true;
    }

    boolean sound(int x0, int y0, int x1, int y1, int newLow, int newHigh) {
        if (x0 < 0 || y0 < 0 || x1 >= w || y1 >= h || x0 > x1 || y0 > y1) {
            return false;
        }
        if (newLow < 0 || newHigh > 99 || newLow > newHigh) {
            return false;
        }
        for (int y = y0; y <= y1; y++) {
            Arrays.fill(low[y], x0, x1 + 1, newLow);
            Arrays.fill(high[y], x0, x1 + 1, newHigh);
        }
        return true;
    }

    int booth(int weight, boolean fire, int crowd) {
        if (weight < 1 || weight > 50 || crowd < 0 || crowd > 99 || stands.size() == 10) {
            return -1;
        }
        Stand stand = new Stand();
        stand.weight = weight;
        stand.fire = fire;
        stand.crowd = crowd;
        stands.add(stand);
        return stands.size() - 1;
    }

    private int strain(int x, int y) {
        int sum = 0;
        for (Stand stand : stands) {
            if (stand.state == 1) {
                int dx = Math.abs(stand.x - x);
                int dy = Math.abs(stand.y - y);
                if (dx == 0 && dy == 0) {
                    sum += 4 * stand.weight;
                } else if (dx + dy == 1) {
                    sum += 2 * stand.weight;
                } else if (dx == 1 && dy == 1) {
                    sum += stand.weight;
                }
            }
        }
        return sum;
    }

    private int bears(int x, int y) {
        return low[y][x] * low[y][x] * custom("bear", 0, 100) / 100;
    }

    private static int far(int x, int y, int x2, int y2) {
        return Math.max(Math.abs(x - x2), Math.abs(y - y2));
    }

    private int standAt(int x, int y) {
        for (int i = 0; i < stands.size(); i++) {
            if (stands.get(i).state == 1 && stands.get(i).x == x && stands.get(i).y == y) {
                return i;
            }
        }
        return -1;
    }

    private boolean isOpen(int x, int y) {
        return standAt(x, y) == -1 && low[y][x] > 0 && !crack[y][x];
    }

    /** Sets it and answers true if it may be. */
    private boolean trySet(Stand stand, int x, int y) {
        if (x < 0 || y < 0 || x >= w || y >= h || !isOpen(x, y)) {
            return false;
        }
        for (int cy = 0; cy < h; cy++) {
            for (int cx = 0; cx < w; cx++) {
                if (crack[cy][cx] && far(x, y, cx, cy) < custom("near", 0, 1)) {
                    return false;
                }
            }
        }
        for (Stand other : stands) {
            if (stand.fire && other != stand && other.state == 1 && other.fire
                    && far(x, y, other.x, other.y) < custom("apart", 0, 0)) {
                return false;
            }
        }
        stand.state = 1;
        stand.x = x;
        stand.y = y;
        for (int cy = 0; cy < h; cy++) {
            for (int cx = 0; cx < w; cx++) {
                if (strain(cx, cy) > 0 && bears(cx, cy) < strain(cx, cy)) {
                    lift(stand, 0);
                    return false;
                }
            }
        }
        return true;
    }

    private static void lift(Stand stand, int state) {
        stand.state = state;
        stand.x = -1;
        stand.y = -1;
    }

    private int pay(Stand stand) {
        int fee = custom("fee", 0, 1) * stand.weight + (stand.fire ? custom("fee", 1, 0) : 0);
        fees += fee;
        return fee;
    }

    int set(int booth, int x, int y) {
        if (booth < 0 || booth >= stands.size() || stands.get(booth).state != 0) {
            return -1;
        }
        return trySet(stands.get(booth), x, y) ? pay(stands.get(booth)) : -1;
    }

    boolean clear(int booth) {
        if (booth < 0 || booth >= stands.size() || stands.get(booth).state != 1) {
            return false;
        }
        lift(stands.get(booth), 0);
        return true;
    }

    private boolean fireAt(int x, int y) {
        int number = standAt(x, y);
        return number >= 0 && stands.get(number).fire;
    }

    int hour(int cold) {
        if (cold < -9 || cold > 9) {
            return -1;
        }
        hours++;
        for (int y = 0; y < h; y++) {
            for (int x = 0; x < w; x++) {
                if (crack[y][x] && low[y][x] >= custom("heal", 0, 99)) {
                    crack[y][x] = false;
                }
                int change = cold - (fireAt(x, y) ? custom("melt", 0, 1) : 0);
                int[][] beside = {{x - 1, y}, {x + 1, y}, {x, y - 1}, {x, y + 1}};
                for (int[] at : beside) {
                    change -= fireAt(at[0], at[1]) ? custom("melt", 1, 0) : 0;
                }
                low[y][x] = Math.min(99, Math.max(0, low[y][x] + change));
                high[y][x] = Math.min(99, Math.max(0, high[y][x] + change));
            }
        }
        int sunk = 0;
        while (true) {
            List<int[]> breaking = new ArrayList<>();
            for (int y = 0; y < h; y++) {
                for (int x = 0; x < w; x++) {
                    if (!crack[y][x] && (strain(x, y) > bears(x, y) || high[y][x] == 0)) {
                        breaking.add(new int[] {x, y});
                    }
                }
            }
            if (breaking.isEmpty()) {
                return sunk;
            }
            for (int[] at : breaking) {
                crack[at[1]][at[0]] = true;
                int number = standAt(at[0], at[1]);
                if (number >= 0) {
                    lift(stands.get(number), 2);
                    sunk++;
                }
            }
        }
    }

    int lay() {
        looks = 0;
        List<Stand> waiting = new ArrayList<>();
        for (Stand stand : stands) {
            if (stand.state == 0) {
                waiting.add(stand);
            }
        }
        int result = layFrom(waiting, 0);
        if (result == 1) {
            waiting.forEach(this::pay);
            return waiting.size();
        }
        return result;
    }

    /** 1: laid; -1: no row; -2: spent. */
    private int layFrom(List<Stand> waiting, int turn) {
        if (turn == waiting.size()) {
            return 1;
        }
        Stand stand = waiting.get(turn);
        for (int y = 0; y < h; y++) {
            for (int x = 0; x < w; x++) {
                if (!isOpen(x, y)) {
                    continue;
                }
                if (++looks > 20000) {
                    return -2;
                }
                if (trySet(stand, x, y)) {
                    int rest = layFrom(waiting, turn + 1);
                    if (rest == 1) {
                        return 1;
                    }
                    lift(stand, 0);
                    if (rest == -2) {
                        return -2;
                    }
                }
            }
        }
        return -1;
    }

    private boolean walkable(int x, int y) {
        return x >= 0 && y >= 0 && x < w && y < h && low[y][x] > 0 && !crack[y][x];
    }

    /** Steps of a man from here to there, walking forward from his cell; -1 if there is no way. */
    private int steps(int x, int y, int toX, int toY) {
        if (!walkable(toX, toY)) {
            return -1;
        }
        Set<Integer> seen = new HashSet<>();
        List<int[]> now = new ArrayList<>();
        now.add(new int[] {x, y});
        seen.add(x * 100 + y);
        for (int taken = 0; !now.isEmpty(); taken++) {
            List<int[]> next = new ArrayList<>();
            for (int[] at : now) {
                if (at[0] == toX && at[1] == toY) {
                    return taken;
                }
                int[][] beside = {{at[0] - 1, at[1]}, {at[0] + 1, at[1]}, {at[0], at[1] - 1}, {at[0], at[1] + 1}};
                for (int[] b : beside) {
                    if (walkable(b[0], b[1]) && seen.add(b[0] * 100 + b[1])) {
                        next.add(b);
                    }
                }
            }
            now = next;
        }
        return -1;
    }

    int soon() {
        boolean any = false;
        for (Stand stand : stands) {
            if (stand.state == 1 && stand.crowd > 0) {
                any = true;
                if (nearest(stand) == -1) {
                    return -1;
                }
            }
        }
        if (!any) {
            return 0;
        }
        for (int minutes = 1;; minutes++) {
            if (allOffIn(minutes)) {
                return minutes;
            }
        }
    }

    /** By a greatest flow from booths through each minute of each stair. */
    private boolean allOffIn(int minutes) {
        int booths = stands.size();
        int slots = stairs.size() * minutes;
        int[][] used = new int[booths][slots];
        int[] room = new int[slots];
        int[][] reach = new int[booths][stairs.size()];
        for (int s = 0; s < stairs.size(); s++) {
            Arrays.fill(room, s * minutes, (s + 1) * minutes, stairs.get(s)[2]);
            for (int b = 0; b < booths; b++) {
                Stand stand = stands.get(b);
                reach[b][s] = stand.state == 1 ? steps(stand.x, stand.y, stairs.get(s)[0], stairs.get(s)[1]) : -1;
            }
        }
        for (int b = 0; b < booths; b++) {
            for (int man = 0; stands.get(b).state == 1 && man < stands.get(b).crowd; man++) {
                if (!sendOne(b, used, room, reach, minutes, new boolean[booths])) {
                    return false;
                }
            }
        }
        return true;
    }

    private boolean sendOne(int b, int[][] used, int[] room, int[][] reach, int minutes, boolean[] seen) {
        seen[b] = true;
        for (int slot = 0; slot < room.length; slot++) {
            if (canUse(reach[b][slot / minutes], slot % minutes + 1) && room[slot] > 0) {
                room[slot]--;
                used[b][slot]++;
                return true;
            }
        }
        for (int slot = 0; slot < room.length; slot++) {
            if (!canUse(reach[b][slot / minutes], slot % minutes + 1)) {
                continue;
            }
            for (int other = 0; other < used.length; other++) {
                if (!seen[other] && used[other][slot] > 0) {
                    if (sendOne(other, used, room, reach, minutes, seen)) {
                        used[other][slot]--;
                        used[b][slot]++;
                        return true;
                    }
                }
            }
        }
        return false;
    }

    private static boolean canUse(int steps, int minute) {
        return steps >= 0 && minute >= steps + 1;
    }

    int proof() {
        int soon = soon();
        if (soon <= 0) {
            return -1;
        }
        for (int bits = 1; bits < 1 << stands.size(); bits++) {
            int men = 0;
            int off = 0;
            for (int b = 0; b < stands.size(); b++) {
                men += (bits >> b & 1) == 1 && stands.get(b).state == 1 ? stands.get(b).crowd : 0;
            }
            for (int[] stair : stairs) {
                int first = Integer.MAX_VALUE;
                for (int b = 0; b < stands.size(); b++) {
                    Stand stand = stands.get(b);
                    int d = (bits >> b & 1) == 1 && stand.state == 1 ? steps(stand.x, stand.y, stair[0], stair[1]) : -1;
                    first = d >= 0 ? Math.min(first, d + 1) : first;
                }
                for (int minute = 1; minute <= soon - 1; minute++) {
                    off += minute >= first ? stair[2] : 0;
                }
            }
            if (men > off) {
                return bits;
            }
        }
        return -99;
    }

    private int nearest(Stand stand) {
        int best = -1;
        for (int[] stair : stairs) {
            int d = stand.state == 1 ? steps(stand.x, stand.y, stair[0], stair[1]) : -1;
            best = d >= 0 && (best < 0 || d < best) ? d : best;
        }
        return best;
    }

    private boolean moves(Stand stand) {
        for (int y = 0; y < h; y++) {
            for (int x = 0; x < w; x++) {
                if (stand.state == 1 && crack[y][x] && far(x, y, stand.x, stand.y) < custom("near", 0, 1)) {
                    return true;
                }
            }
        }
        return false;
    }

    String cell(int x, int y, int what) {
        if (x < 0 || y < 0 || x >= w || y >= h) {
            return INDEX;
        }
        if (what < 0 || what > 5) {
            return ELEMENT;
        }
        int[] all = {low[y][x], high[y][x], crack[y][x] ? 1 : 0, strain(x, y), bears(x, y), standAt(x, y)};
        return String.valueOf(all[what]);
    }

    String look(int booth, int what) {
        if (booth < 0 || booth >= stands.size()) {
            return INDEX;
        }
        if (what < 0 || what > 4) {
            return ELEMENT;
        }
        Stand stand = stands.get(booth);
        int[] all = {stand.state, stand.x, stand.y, moves(stand) ? 1 : 0, nearest(stand)};
        return String.valueOf(all[what]);
    }

    int count(int what) {
        int set = 0;
        int sunk = 0;
        int cracks = 0;
        int move = 0;
        for (Stand stand : stands) {
            set += stand.state == 1 ? 1 : 0;
            sunk += stand.state == 2 ? 1 : 0;
            move += moves(stand) ? 1 : 0;
        }
        for (boolean[] row : crack) {
            for (boolean one : row) {
                cracks += one ? 1 : 0;
            }
        }
        int[] all = {stands.size(), set, sunk, cracks, hours, fees, looks, stairs.size(), move};
        return what < 0 || what >= all.length ? -1 : all[what];
    }
}
