import java.util.ArrayList;
import java.util.HashMap;
import java.util.List;
import java.util.Map;
import java.util.TreeMap;

/**
 * The document once more, as plainly as can be and by other ways than the class: kinds as numbers, ways by distances
 * that are made less until none can be, games by trying all turns.
 */
final class Model {
    static final long NO_SHELF = Long.MIN_VALUE;
    static final long NO_ELEMENT = Long.MIN_VALUE + 1;
    private static final int FAR = 1_000_000;

    /** How drawers stand: of each {kind, figure, open}. */
    private List<int[]> wall = new ArrayList<>();
    private List<int[]> image = null;
    private final int[][] drawers = new int[8][];
    private final int[][] rows = new int[8][];
    private final int[] sorts = new int[8];

    private static List<int[]> like(List<int[]> wall) {
        List<int[]> other = new ArrayList<>();
        for (int[] one : wall) {
            other.add(one.clone());
        }
        return other;
    }

    private static boolean open(List<int[]> wall, int drawer) {
        return drawer < wall.size() && wall.get(drawer)[2] == 1;
    }

    private static boolean joiner(List<int[]> wall, int drawer) {
        if (drawer == 0) {
            return true;
        }
        for (int above = 0; above < drawer; above++) {
            if (open(wall, above) != (above < drawer - 1)) {
                return false;
            }
        }
        return true;
    }

    private static boolean may(List<int[]> wall, int drawer) {
        if (drawer < 0 || drawer >= wall.size()) {
            return false;
        }
        int figure = wall.get(drawer)[1];
        int opened = 0;
        for (int i = 0; i < wall.size(); i++) {
            opened += open(wall, i) ? 1 : 0;
        }
        boolean under = drawer == 0 || !open(wall, drawer - 1);
        switch (wall.get(drawer)[0]) {
            case 0: return joiner(wall, drawer);
            case 1: return true;
            case 2: return false;
            case 3: return under;
            case 4: return joiner(wall, drawer) && !open(wall, figure);
            case 5: return under || opened >= figure;
            case 6: return (opened - (open(wall, drawer) ? 1 : 0) + figure) % 2 == 0;
            default: return open(wall, drawer) || joiner(wall, drawer);
        }
    }

    private static boolean pullIfMay(List<int[]> wall, int drawer) {
        if (!may(wall, drawer)) {
            return false;
        }
        wall.get(drawer)[2] ^= 1;
        return true;
    }

    private static int bits(List<int[]> wall) {
        int bits = 0;
        for (int i = wall.size() - 1; i >= 0; i--) {
            bits = bits * 2 + wall.get(i)[2];
        }
        return bits;
    }

    private static List<int[]> stood(List<int[]> wall, int bits) {
        List<int[]> other = like(wall);
        for (int i = 0; i < wall.size(); i++) {
            other.get(i)[2] = bits >> i & 1;
        }
        return other;
    }

    private static List<int[]> with(List<int[]> wall, int drawer, int kind, int figure) {
        List<int[]> other = like(wall);
        other.get(drawer)[0] = kind;
        other.get(drawer)[1] = figure;
        return other;
    }

    private static int mayBits(List<int[]> wall) {
        int bits = 0;
        for (int i = 0; i < wall.size(); i++) {
            bits |= may(wall, i) ? 1 << i : 0;
        }
        return bits;
    }

    private boolean isStanding(int bits) {
        return bits >= 0 && bits < 1 << wall.size();
    }

    private boolean isDrawer(int drawer) {
        return drawer >= 0 && drawer < wall.size();
    }

    private static boolean isShelf(int d) {
        return d >= 0 && d <= 7;
    }

    private static boolean isDigit(int figure) {
        return figure >= 0 && figure <= 9;
    }

    private static boolean isOneOfTwo(int what) {
        return what == 0 || what == 1;
    }

    private int refusal(int d, boolean drawerWanted, int sortWanted) {
        if (!isShelf(d)) {
            return -1;
        }
        if (drawers[d] == null && rows[d] == null) {
            return -11;
        }
        if (drawerWanted) {
            return drawers[d] == null ? -12 : 0;
        }
        return rows[d] == null || sortWanted >= 0 && sorts[d] != sortWanted ? -12 : 0;
    }

    int wall(int d) {
        int refusal = refusal(d, false, 0);
        if (refusal != 0) {
            return refusal;
        }
        StringBuilder text = new StringBuilder();
        for (int v : rows[d]) {
            text.append((char) (v & 255));
        }
        String rest = text.toString();
        int begun = 0;
        List<Integer> begins = new ArrayList<>();
        while (true) {
            int length = whole(rest.substring(begun));
            if (length <= 0) {
                if (begun == rest.length() && !begins.isEmpty()) {
                    break;
                }
                return -1000 - begun + length;
            }
            begins.add(begun);
            begun += length;
        }
        List<int[]> then = like(wall);
        for (int begin : begins) {
            int number = rest.charAt(begin + 1) - '0';
            boolean done = number < then.size();
            switch (rest.charAt(begin)) {
                case 'd':
                    done = number < 8 && then.size() < 6;
                    then.add(new int[] {number, rest.charAt(begin + 2) - '0', 0});
                    break;
                case 'p':
                    done = done && pullIfMay(then, number);
                    break;
                default:
                    if (done) {
                        then.get(number)[2] = rest.charAt(begin) == 'o' ? 1 : 0;
                    }
            }
            if (!done) {
                return -2000 - begin;
            }
        }
        wall = then;
        return begins.size();
    }

    /** The length of the statement that the text begins with, or minus how much of one it begins with. */
    private static int whole(String text) {
        for (String form : new String[] {"d99;", "o9;", "s9;", "p9;"}) {
            int same = 0;
            while (same < form.length() && same < text.length()) {
                char c = text.charAt(same);
                if (form.charAt(same) == '9' ? c < '0' || c > '9' : c != form.charAt(same)) {
                    break;
                }
                same++;
            }
            if (same > 0) {
                return same == form.length() ? same : -same;
            }
        }
        return 0;
    }

    int drawer(int drawer, int what) {
        if (!isDrawer(drawer) || what < 0 || what > 3) {
            return -1;
        }
        return what < 3 ? wall.get(drawer)[what] : mayBits(wall) >> drawer & 1;
    }

    int comes(int d) {
        int refusal = refusal(d, true, 0);
        if (refusal != 0) {
            return refusal;
        }
        if (wall.size() == 6) {
            return -2;
        }
        wall.add(new int[] {drawers[d][0], drawers[d][1], 0});
        return wall.size() - 1;
    }

    int changes(int d, int drawer) {
        int refusal = isDrawer(drawer) ? refusal(d, true, 0) : -1;
        if (refusal != 0) {
            return refusal;
        }
        int before = wall.get(drawer)[0];
        wall.get(drawer)[0] = drawers[d][0];
        wall.get(drawer)[1] = drawers[d][1];
        return before;
    }

    int pull(int drawer) {
        if (!isDrawer(drawer)) {
            return -1;
        }
        return pullIfMay(wall, drawer) ? bits(wall) : -3;
    }

    int standing(int what) {
        if (!isOneOfTwo(what)) {
            return -1;
        }
        return what == 0 ? bits(wall) : mayBits(wall);
    }

    int stand(int standing) {
        if (!isStanding(standing)) {
            return -1;
        }
        int before = bits(wall);
        wall = stood(wall, standing);
        return before;
    }

    /** The fewest pulls from one standing to each. */
    private static int[] distances(List<int[]> wall, int from) {
        int all = 1 << wall.size();
        int[] distance = new int[all];
        java.util.Arrays.fill(distance, FAR);
        distance[from] = 0;
        boolean less = true;
        while (less) {
            less = false;
            for (int s = all - 1; s >= 0; s--) {
                int may = mayBits(stood(wall, s));
                for (int i = 0; i < wall.size(); i++) {
                    int then = s ^ (1 << i);
                    if ((may >> i & 1) == 1 && distance[s] + 1 < distance[then]) {
                        distance[then] = distance[s] + 1;
                        less = true;
                    }
                }
            }
        }
        return distance;
    }

    int fewest(int from, int to) {
        if (!isStanding(from) || !isStanding(to)) {
            return -1;
        }
        int distance = distances(wall, from)[to];
        return distance == FAR ? -4 : distance;
    }

    int first(int from, int to) {
        int whole = fewest(from, to);
        if (whole <= 0) {
            return whole == -1 ? -1 : -4;
        }
        for (int i = 0; i < wall.size(); i++) {
            List<int[]> then = stood(wall, from);
            if (pullIfMay(then, i) && fewest(bits(then), to) == whole - 1) {
                return i;
            }
        }
        return -99;
    }

    int far(int what) {
        if (what < 0 || what > 2) {
            return -1;
        }
        TreeMap<Integer, Integer> leastBy = new TreeMap<>();
        int many = 0;
        int[] distance = distances(wall, bits(wall));
        for (int s = distance.length - 1; s >= 0; s--) {
            if (distance[s] < FAR) {
                many++;
                leastBy.put(distance[s], s);
            }
        }
        return what == 0 ? many : what == 1 ? leastBy.lastKey() : leastBy.lastEntry().getValue();
    }

    int never() {
        int never = (1 << wall.size()) - 1;
        int[] distance = distances(wall, bits(wall));
        for (int s = 0; s < distance.length; s++) {
            if (distance[s] < FAR) {
                never &= ~mayBits(stood(wall, s));
            }
        }
        return never;
    }

    private boolean isJoiners() {
        for (int[] one : wall) {
            if (one[0] != 0) {
                return false;
            }
        }
        return true;
    }

    int place(int standing) {
        if (!isStanding(standing)) {
            return -1;
        }
        return isJoiners() ? fewest((1 << wall.size()) - 1, standing) : -3;
    }

    int at(int n) {
        if (n < 0) {
            return -1;
        }
        if (!isJoiners()) {
            return -3;
        }
        for (int s = 0; s < 1 << wall.size(); s++) {
            if (place(s) == n) {
                return s;
            }
        }
        return -4;
    }

    /** By distances of pairs (a standing, those that have been open), made less until none can be. */
    private static int hadBy(List<int[]> wall, int told) {
        int all = 1 << wall.size();
        int[] may = new int[all];
        for (int s = 0; s < all; s++) {
            may[s] = mayBits(stood(wall, s));
        }
        Map<Integer, Integer> distance = new HashMap<>();
        distance.put(bits(wall) * 64 + bits(wall), 0);
        boolean less = true;
        while (less) {
            less = false;
            for (Map.Entry<Integer, Integer> entry : new ArrayList<>(distance.entrySet())) {
                int s = entry.getKey() / 64;
                int seen = entry.getKey() % 64;
                for (int i = 0; i < wall.size(); i++) {
                    if ((may[s] >> i & 1) == 1) {
                        int then = s ^ (1 << i);
                        int key = then * 64 + (seen | then);
                        int pulls = distance.get(entry.getKey()) + 1;
                        if (distance.getOrDefault(key, FAR) > pulls) {
                            distance.put(key, pulls);
                            less = true;
                        }
                    }
                }
            }
        }
        int fewest = FAR;
        for (Map.Entry<Integer, Integer> entry : distance.entrySet()) {
            if ((entry.getKey() % 64 & told) == told) {
                fewest = Math.min(fewest, entry.getValue());
            }
        }
        return fewest == FAR ? -4 : fewest;
    }

    int had(int told) {
        return isStanding(told) ? hadBy(wall, told) : -1;
    }

    int freed(int told) {
        if (!isStanding(told)) {
            return -1;
        }
        int best = -99;
        for (int set = (1 << wall.size()) - 1; set >= 0; set--) {
            List<int[]> other = like(wall);
            for (int i = 0; i < wall.size(); i++) {
                if ((set >> i & 1) == 1) {
                    other.get(i)[0] = 1;
                }
            }
            boolean fewer = best < 0 || Integer.bitCount(set) <= Integer.bitCount(best);
            if (fewer && hadBy(other, told) >= 0) {
                best = set;
            }
        }
        return best;
    }

    int longest(int drawer, int figure, int other, int what) {
        if (!isDrawer(drawer) || !isDigit(figure) || !isDrawer(other) || !isOneOfTwo(what)) {
            return -1;
        }
        int best = -4;
        int most = -4;
        for (int kind = 7; kind >= 0; kind--) {
            int pulls = hadBy(with(wall, drawer, kind, figure), 1 << other);
            if (pulls >= 0 && pulls >= most) {
                most = pulls;
                best = kind;
            }
        }
        return what == 0 ? best : most;
    }

    int tried(int d, int drawer, int figure) {
        if (!isDrawer(drawer) || !isDigit(figure)) {
            return -1;
        }
        int refusal = refusal(d, false, 0);
        if (refusal != 0) {
            return refusal;
        }
        if (rows[d].length % 2 == 1) {
            return -13;
        }
        for (int i = 0; i < rows[d].length; i += 2) {
            if (!isDrawer(rows[d][i]) || !isOneOfTwo(rows[d][i + 1])) {
                return -13;
            }
        }
        int kinds = 0;
        for (int kind = 0; kind < 8; kind++) {
            List<int[]> other = with(wall, drawer, kind, figure);
            boolean fits = true;
            for (int i = 0; i < rows[d].length; i += 2) {
                fits = fits && pullIfMay(other, rows[d][i]) == (rows[d][i + 1] == 1);
            }
            kinds += fits ? 1 << kind : 0;
        }
        return kinds;
    }

    int next(int drawer, int figure, int kinds, int what) {
        if (!isDrawer(drawer) || !isDigit(figure) || kinds < 1 || kinds > 255 || !isOneOfTwo(what)) {
            return -1;
        }
        int least = 99;
        int best = -99;
        for (int s = 0; s < 1 << wall.size(); s++) {
            int moves = 0;
            int rests = 0;
            for (int kind = 0; kind < 8; kind++) {
                if ((kinds >> kind & 1) == 1) {
                    if (may(stood(with(wall, drawer, kind, figure), s), drawer)) {
                        moves++;
                    } else {
                        rests++;
                    }
                }
            }
            if (Math.max(moves, rests) < least) {
                least = Math.max(moves, rests);
                best = s;
            }
        }
        return what == 0 ? best : least;
    }

    int game(int drawer, int n) {
        if (!isDrawer(drawer) || n < 0 || n > 5) {
            return -1;
        }
        return wins(wall, drawer, n, true) ? 1 : 0;
    }

    private static boolean wins(List<int[]> wall, int drawer, int left, boolean first) {
        if (left == 0) {
            return open(wall, drawer);
        }
        for (int i = -1; i < wall.size(); i++) {
            List<int[]> then = like(wall);
            if ((i < 0 || pullIfMay(then, i)) && wins(then, drawer, left - 1, !first) == first) {
                return first;
            }
        }
        return !first;
    }

    int run(int d, int what) {
        if (!isOneOfTwo(what)) {
            return -1;
        }
        int refusal = refusal(d, false, 0);
        if (refusal != 0) {
            return refusal;
        }
        List<int[]> then = like(wall);
        int pulled = 0;
        for (int v : rows[d]) {
            if (!isDrawer(v)) {
                return -13;
            }
            pulled += pullIfMay(then, v) ? 1 : 0;
        }
        return what == 0 ? bits(then) : pulled;
    }

    int seeded(int n, int z, int what) {
        if (n < 1 || n > 60 || !isOneOfTwo(what)) {
            return -1;
        }
        if (wall.isEmpty()) {
            return -3;
        }
        List<int[]> then = like(wall);
        int pulled = 0;
        int seed = z;
        for (int i = 0; i < n; i++) {
            seed = (int) (seed * 1103515245L + 12345L);
            pulled += pullIfMay(then, (seed << 1 >>> 17) % wall.size()) ? 1 : 0;
        }
        return what == 0 ? bits(then) : pulled;
    }

    int judge(int d) {
        int refusal = refusal(d, false, -1);
        if (refusal != 0) {
            return refusal;
        }
        List<int[]> then = like(wall);
        for (int i = 0; i < rows[d].length; i++) {
            if (!pullIfMay(then, rows[d][i])) {
                return i;
            }
        }
        return -4;
    }

    int image() {
        image = like(wall);
        return bits(wall);
    }

    int restore() {
        if (image == null) {
            return -3;
        }
        wall = like(image);
        return bits(wall);
    }

    int count(int what) {
        int many = 0;
        for (int i = 0; i < wall.size(); i++) {
            boolean[] counts = {true, open(wall, i), may(wall, i), wall.get(i)[0] == 2};
            many += what >= 0 && what < 4 && counts[what] ? 1 : 0;
        }
        return what < 0 || what > 3 ? -1 : many;
    }

    int keep(int d, int what, int k, int figure) {
        if (!isShelf(d) || !isOneOfTwo(what) || what == 1 && (k < 0 || k > 7 || !isDigit(figure))) {
            return -1;
        }
        drawers[d] = what == 0 ? null : new int[] {k, figure};
        rows[d] = null;
        return 0;
    }

    int row(int d, int sort, int n) {
        if (!isShelf(d) || sort < 0 || sort > 2 || n > 100) {
            return -1;
        }
        if (n < 0) {
            return -14;
        }
        drawers[d] = null;
        rows[d] = new int[n];
        sorts[d] = sort;
        return 0;
    }

    int put(int d, int i, int v) {
        int refusal = refusal(d, false, -1);
        if (refusal != 0) {
            return refusal;
        }
        if (i < 0 || i >= rows[d].length) {
            return -13;
        }
        rows[d][i] = sorts[d] == 0 ? (byte) v : sorts[d] == 1 ? (short) v : v;
        return 0;
    }

    long element(int d, int i) {
        if (!isShelf(d)) {
            return NO_SHELF;
        }
        return rows[d] == null || i < 0 || i >= rows[d].length ? NO_ELEMENT : rows[d][i];
    }

    int copy(int d, int i, int e, int j, int n) {
        int[] refusals = {refusal(d, false, -1), refusal(e, false, -1)};
        for (int refusal : new int[] {-1, -11, -12}) {
            if (refusals[0] == refusal || refusals[1] == refusal) {
                return refusal;
            }
        }
        if (sorts[d] != sorts[e]) {
            return -12;
        }
        if (i < 0 || j < 0 || n < 0 || (long) i + n > rows[d].length || (long) j + n > rows[e].length) {
            return -13;
        }
        int[] taken = java.util.Arrays.copyOfRange(rows[d], i, i + n);
        System.arraycopy(taken, 0, rows[e], j, n);
        return n;
    }

    private static int costBy(int kind, int figure) {
        int free = 3;
        int under = 2 * free;
        return new int[] {4, free, 4 + figure, under, 4 * (figure + 1), under - figure, free + 5, 4}[kind];
    }

    int cost(int d) {
        int refusal = refusal(d, true, 0);
        return refusal != 0 ? refusal : costBy(drawers[d][0], drawers[d][1]);
    }

    int toss(int d) {
        int refusal = refusal(d, true, 0);
        if (refusal != 0) {
            return refusal;
        }
        int kind = drawers[d][0];
        int figure = drawers[d][1];
        if (kind == 1 || figure == 0) {
            return -15;
        }
        return kind == 5 ? 200 + costBy(kind, figure) : kind == 4 ? 100 + figure : figure;
    }
}
