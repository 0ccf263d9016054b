import java.util.ArrayDeque;
import java.util.ArrayList;
import java.util.Collections;
import java.util.HashMap;
import java.util.HashSet;
import java.util.List;
import java.util.Map;
import java.util.Set;
import java.util.TreeMap;

/**
 * The document said a second time, slowly: walks are maps without bounds, tours are searched for
 * step by step, spheres are grown, orders are multiplied out.
 */
final class Model implements Face {
    static final int NONE = -9;

    /** A walk: lit lamps alone, by their corners, and an end. Never changed once made. */
    static final class Walk {
        final TreeMap<Integer, Integer> lit;
        final int end;

        Walk(TreeMap<Integer, Integer> lit, int end) {
            this.lit = lit;
            this.end = end;
        }

        String key() {
            return lit + "@" + end;
        }
    }

    static final Walk BARE = new Walk(new TreeMap<>(), 0);
    private static final int[] PARENT = {-1, 0, 0, 1, 1, 2};
    private static final Map<String, Integer> LINE_TOURS = new HashMap<>();
    private static final Map<Integer, int[][]> RING_TOURS = new HashMap<>();

    int sort = 0;
    int n = 25;
    int m = 2;
    List<Walk> walks = new ArrayList<>();
    List<int[]> helpers = new ArrayList<>();
    String letters = "";
    int[][] lists = new int[3][];
    int[] refusals = new int[7];
    int[] imageStreet = null;
    List<Walk> imageWalks = null;
    List<int[]> imageHelpers = null;

    // ---- what the calls share

    int refuse(int number) {
        refusals[-number]++;
        return number;
    }

    long far(int number) {
        return 1000000000L - refuse(number);
    }

    long farLong(int number) {
        return 4000000000000000000L - refuse(number);
    }

    boolean noWalk(int w) {
        return w < 0 || w >= walks.size();
    }

    boolean noCorner(int c) {
        return sort == 0 ? c < -12 || c > 12 : c < 0 || c >= n;
    }

    int least() {
        return sort == 0 ? -12 : 0;
    }

    int add(Walk w) {
        walks.add(w);
        return walks.size() - 1;
    }

    boolean isThere(Walk w) {
        if (noCorner(w.end)) {
            return false;
        }
        for (int c : w.lit.keySet()) {
            if (noCorner(c)) {
                return false;
            }
        }
        return true;
    }

    int round(int c) {
        return sort == 1 ? Math.floorMod(c, n) : c;
    }

    Walk withLamp(Walk w, int corner, int more) {
        TreeMap<Integer, Integer> lit = new TreeMap<>(w.lit);
        int shows = Math.floorMod(lit.getOrDefault(corner, 0) + more, m);
        if (shows == 0) {
            lit.remove(corner);
        } else {
            lit.put(corner, shows);
        }
        return new Walk(lit, w.end);
    }

    /** A letter done; null, if it can't. */
    Walk after(Walk w, char letter) {
        switch (letter) {
            case 'a': return withLamp(w, w.end, 1);
            case 'A': return withLamp(w, w.end, -1);
            case 't': return noCorner(round(w.end + 1)) ? null : new Walk(w.lit, round(w.end + 1));
            default: return noCorner(round(w.end - 1)) ? null : new Walk(w.lit, round(w.end - 1));
        }
    }

    Walk afterAll(Walk w, String word) {
        Walk now = w;
        for (int i = 0; i < word.length() && now != null; i++) {
            now = after(now, word.charAt(i));
        }
        return now;
    }

    /** As if a line had no last corner. */
    Walk product(Walk g, Walk h) {
        Walk made = g;
        for (Map.Entry<Integer, Integer> lamp : h.lit.entrySet()) {
            made = withLamp(made, round(lamp.getKey() + g.end), lamp.getValue());
        }
        return new Walk(made.lit, round(g.end + h.end));
    }

    /** Null, if the document says that it can't be. */
    Walk strictProduct(Walk g, Walk h) {
        if (g == null || h == null || noCorner(round(g.end + h.end))) {
            return null;
        }
        for (int c : h.lit.keySet()) {
            if (noCorner(round(c + g.end))) {
                return null;
            }
        }
        return product(g, h);
    }

    Walk inverted(Walk g) {
        Walk made = BARE;
        for (Map.Entry<Integer, Integer> lamp : g.lit.entrySet()) {
            made = withLamp(made, round(lamp.getKey() - g.end), -lamp.getValue());
        }
        return new Walk(made.lit, round(-g.end));
    }

    Walk strictInverted(Walk g) {
        Walk made = inverted(g);
        return isThere(made) ? made : null;
    }

    int turns(Walk w) {
        int turns = 0;
        for (int shows : w.lit.values()) {
            turns += Math.min(shows, m - shows);
        }
        return turns;
    }

    int tour(Walk w) {
        if (sort == 1) {
            int need = 0;
            for (int c : w.lit.keySet()) {
                need |= 1 << c;
            }
            int best = Integer.MAX_VALUE;
            int[][] steps = RING_TOURS.computeIfAbsent(n, Model::searchRing);
            for (int seen = 0; seen < 1 << n; seen++) {
                if ((seen & need) == need && steps[seen][w.end] >= 0) {
                    best = Math.min(best, steps[seen][w.end]);
                }
            }
            return best;
        }
        int low = w.lit.isEmpty() ? 0 : Math.min(0, w.lit.firstKey());
        int high = w.lit.isEmpty() ? 0 : Math.max(0, w.lit.lastKey());
        String key = low + " " + high + " " + w.end;
        Integer known = LINE_TOURS.get(key);
        if (known == null) {
            known = searchLine(low, high, w.end);
            LINE_TOURS.put(key, known);
        }
        return known;
    }

    /** The fewest steps to each corner of a ring with just so many corners seen; -1: never. */
    private static int[][] searchRing(int n) {
        int[][] steps = new int[1 << n][n];
        for (int[] row : steps) {
            java.util.Arrays.fill(row, -1);
        }
        ArrayDeque<int[]> waiting = new ArrayDeque<>();
        steps[1][0] = 0;
        waiting.add(new int[] {1, 0});
        while (!waiting.isEmpty()) {
            int[] at = waiting.remove();
            for (int by = -1; by <= 1; by += 2) {
                int to = Math.floorMod(at[1] + by, n);
                int seen = at[0] | 1 << to;
                if (steps[seen][to] < 0) {
                    steps[seen][to] = steps[at[0]][at[1]] + 1;
                    waiting.add(new int[] {seen, to});
                }
            }
        }
        return steps;
    }

    private static int searchLine(int low, int high, int end) {
        Map<List<Integer>, Integer> steps = new HashMap<>();
        ArrayDeque<List<Integer>> waiting = new ArrayDeque<>();
        List<Integer> start = List.of(0, 0, 0);
        steps.put(start, 0);
        waiting.add(start);
        while (!waiting.isEmpty()) {
            List<Integer> at = waiting.remove();
            int here = at.get(0);
            if (here == end && at.get(1) <= low && at.get(2) >= high) {
                return steps.get(at);
            }
            for (int to = here - 1; to <= here + 1; to += 2) {
                if (to < Math.min(low, end) || to > Math.max(high, end)) {
                    continue;
                }
                List<Integer> next = List.of(to, Math.min(at.get(1), to), Math.max(at.get(2), to));
                if (!steps.containsKey(next)) {
                    steps.put(next, steps.get(at) + 1);
                    waiting.add(next);
                }
            }
        }
        throw new IllegalStateException();
    }

    int length(Walk w) {
        return turns(w) + tour(w);
    }

    int depth(Walk w, int most) {
        int base = length(w);
        List<Walk> level = List.of(w);
        for (int k = 1; k <= most; k++) {
            List<Walk> next = new ArrayList<>();
            Set<String> seen = new HashSet<>();
            for (Walk from : level) {
                for (char letter : "aAtT".toCharArray()) {
                    Walk to = after(from, letter);
                    if (to != null && length(to) > base) {
                        return k;
                    }
                    if (to != null && seen.add(to.key())) {
                        next.add(to);
                    }
                }
            }
            level = next;
        }
        return NONE;
    }

    int order(Walk w) {
        if (sort == 0 && w.end != 0) {
            return NONE;
        }
        Walk made = w;
        for (int k = 1; k <= 1000; k++) {
            if (made.lit.isEmpty() && made.end == 0) {
                return k;
            }
            made = product(made, w);
        }
        return NONE;
    }

    List<Integer> sumsOf(Walk w) {
        int many = Math.abs(w.end);
        if (sort == 1) {
            many = n;
            for (int e = w.end; e != 0;) {
                int rest = many % e;
                many = e;
                e = rest;
            }
        }
        List<Integer> sums = new ArrayList<>();
        for (int j = 0; j < many; j++) {
            int sum = 0;
            for (int c = least(); c < least() + n; c++) {
                if (((c % many) + many) % many == j) {
                    sum += w.lit.getOrDefault(c, 0);
                }
            }
            sums.add(sum % m);
        }
        return sums;
    }

    boolean alike(Walk g, Walk h) {
        if (g.end != h.end) {
            return false;
        }
        if (sort == 0 && g.end == 0) {
            for (int by = -24; by <= 24; by++) {
                TreeMap<Integer, Integer> moved = new TreeMap<>();
                for (Map.Entry<Integer, Integer> lamp : g.lit.entrySet()) {
                    moved.put(lamp.getKey() + by, lamp.getValue());
                }
                if (moved.equals(h.lit)) {
                    return true;
                }
            }
            return false;
        }
        List<Integer> twice = new ArrayList<>(sumsOf(g));
        twice.addAll(sumsOf(g));
        return Collections.indexOfSubList(twice, sumsOf(h)) >= 0;
    }

    /** Written along one way: through the corners told, to the end. */
    private String along(Walk w, int... through) {
        StringBuilder word = new StringBuilder();
        Set<Integer> stood = new HashSet<>();
        int at = 0;
        List<Integer> goals = new ArrayList<>();
        goals.add(0);
        for (int c : through) {
            goals.add(c);
        }
        goals.add(w.end);
        for (int goal : goals) {
            while (true) {
                if (stood.add(at)) {
                    int shows = w.lit.getOrDefault(at, 0);
                    word.append((shows <= m - shows ? "a" : "A").repeat(Math.min(shows, m - shows)));
                }
                if (at == goal) {
                    break;
                }
                word.append(goal > at ? 't' : 'T');
                at += goal > at ? 1 : -1;
            }
        }
        return word.toString();
    }

    String writtenOf(Walk w) {
        boolean down = !w.lit.isEmpty() && w.lit.firstKey() < 0;
        boolean up = !w.lit.isEmpty() && w.lit.lastKey() > 0;
        int low = down ? w.lit.firstKey() : 0;
        int high = up ? w.lit.lastKey() : 0;
        if (!down && !up) {
            return along(w);
        }
        if (down != up) {
            return along(w, down ? low : high);
        }
        String one = along(w, low, high);
        String other = along(w, high, low);
        return other.length() < one.length() ? other : one;
    }

    String helped(int kind, int figure) {
        switch (kind) {
            case 0: return "a".repeat(figure + 1);
            case 1: return "t" + helped(0, figure);
            case 2: return helped(0, figure) + "T";
            case 3: return helped(1, figure) + helped(1, figure);
            case 4: return "t".repeat(figure) + helped(1, figure);
            default: return helped(2, figure) + "A";
        }
    }

    // ---- the face

    @Override
    public long call(String name, int... a) {
        switch (name) {
            case "letter": return letter(a[0]);
            case "word": return word();
            case "street": return street(a[0], a[1], a[2]);
            case "drop": return drop();
            case "of": return of(a[0], a[1]);
            case "lamp": return lamp(a[0], a[1]);
            case "times": return times(a[0], a[1]);
            case "inverse": return inverse(a[0]);
            case "power": return power(a[0], a[1]);
            case "conjugate": return conjugate(a[0], a[1]);
            case "distance": return distance(a[0], a[1]);
            case "like": return like(a[0], a[1]);
            case "sums": return sums(a[0], a[1]);
            case "sphere": return sphere(a[0]);
            case "written": return written(a[0], a[1]);
            case "odds": return odds(a[0], a[1]);
            case "lots": return lots(a[0], a[1], a[2], a[3]);
            case "helper": return helper(a[0], a[1]);
            case "helps": return helps(a[0], a[1]);
            case "taken": return taken(a[0], a[1]);
            case "done": return done(a[0], a[1]);
            case "step": return step(a[0], a[1]);
            case "list": return list(a[0], a[1]);
            case "put": return put(a[0], a[1], a[2]);
            case "look": return look(a[0], a[1]);
            case "lays": return lays(a[0], a[1], a[2]);
            case "from": return from(a[0], a[1]);
            case "judge": return judge(a[0], a[1]);
            case "image": return image();
            case "on": return on();
            case "count": return count(a[0]);
            default: throw new IllegalStateException(name);
        }
    }

    private long letter(int c) {
        if (c < 0) return refuse(-4);
        if (c > 255 || letters.length() == 72) return refuse(-6);
        letters += (char) c;
        return letters.length();
    }

    private long word() {
        if (walks.size() == 6) return refuse(-6);
        String told = letters;
        letters = "";
        if (!told.matches("(?s)([aAtT][1-9]?)+")) {
            for (int many = 1; many <= told.length(); many++) {
                if (!told.substring(0, many).matches("(?s)([aAtT][1-9]?)+")) {
                    return -1000 - (many - 1);
                }
            }
            return -1000 - told.length();
        }
        Walk w = BARE;
        for (int i = 0; i < told.length(); i++) {
            if (Character.isLetter(told.charAt(i))) {
                boolean counted = i + 1 < told.length() && Character.isDigit(told.charAt(i + 1));
                int often = counted ? told.charAt(i + 1) - '0' : 1;
                w = afterAll(w, told.substring(i, i + 1).repeat(often));
                if (w == null) return -2000 - i;
            }
        }
        return add(w);
    }

    private long street(int newSort, int newN, int newM) {
        if (newSort < 0 || newSort > 1) return refuse(-2);
        if (newSort == 1 && newN < 3) return refuse(-4);
        if (newM < 2) return refuse(-4);
        if (newSort == 1 && newN > 8) return refuse(-6);
        if (newM > 5) return refuse(-6);
        sort = newSort;
        n = newSort == 1 ? newN : 25;
        m = newM;
        walks.clear();
        helpers.clear();
        return n;
    }

    private long drop() {
        if (walks.isEmpty()) return refuse(-3);
        walks.remove(walks.size() - 1);
        return walks.size();
    }

    private long of(int g, int what) {
        if (noWalk(g)) return far(-1);
        Walk w = walks.get(g);
        switch (what) {
            case 0: return w.end;
            case 1: return w.lit.size();
            case 2: return length(w);
            case 3: return turns(w);
            case 4: return tour(w);
            case 5: return depth(w, 1) == NONE ? 1 : 0;
            case 6: return depth(w, 4);
            case 7: return order(w);
            default: return far(-2);
        }
    }

    private long lamp(int g, int corner) {
        if (noWalk(g) || noCorner(corner)) return refuse(-1);
        return walks.get(g).lit.getOrDefault(corner, 0);
    }

    private long keep(Walk made) {
        return walks.size() == 6 || made == null ? refuse(-6) : add(made);
    }

    private long times(int g, int h) {
        if (noWalk(g) || noWalk(h)) return refuse(-1);
        return keep(strictProduct(walks.get(g), walks.get(h)));
    }

    private long inverse(int g) {
        if (noWalk(g)) return refuse(-1);
        return keep(strictInverted(walks.get(g)));
    }

    private long power(int g, int k) {
        if (noWalk(g)) return refuse(-1);
        if (k < 0) return refuse(-4);
        if (k > 6) return refuse(-6);
        Walk made = BARE;
        for (int time = 0; time < k; time++) {
            made = strictProduct(made, walks.get(g));
        }
        return keep(made);
    }

    private long conjugate(int g, int h) {
        if (noWalk(g) || noWalk(h)) return refuse(-1);
        Walk by = walks.get(h);
        return keep(strictProduct(strictProduct(strictInverted(by), walks.get(g)), by));
    }

    private long distance(int g, int h) {
        if (noWalk(g) || noWalk(h)) return refuse(-1);
        return length(product(inverted(walks.get(g)), walks.get(h)));
    }

    private long like(int g, int h) {
        if (noWalk(g) || noWalk(h)) return refuse(-1);
        return alike(walks.get(g), walks.get(h)) ? 1 : 0;
    }

    private long sums(int g, int j) {
        if (noWalk(g)) return refuse(-1);
        if (j < -1) return refuse(-4);
        List<Integer> sums = sumsOf(walks.get(g));
        if (j == -1) return sums.size();
        return j < sums.size() ? sums.get(j) : NONE;
    }

    private static final Map<String, Integer> SPHERES = new HashMap<>();

    private long sphere(int k) {
        if (k < 0) return refuse(-4);
        if (k > 5) return refuse(-6);
        return SPHERES.computeIfAbsent(sort + " " + n + " " + m + " " + k, key -> grown(k));
    }

    private int grown(int k) {
        Set<String> seen = new HashSet<>();
        seen.add(BARE.key());
        List<Walk> shell = List.of(BARE);
        for (int i = 0; i < k; i++) {
            List<Walk> next = new ArrayList<>();
            for (Walk w : shell) {
                for (char letter : "aAtT".toCharArray()) {
                    Walk to = after(w, letter);
                    if (seen.add(to.key())) next.add(to);
                }
            }
            shell = next;
        }
        return shell.size();
    }

    private long written(int g, int i) {
        if (noWalk(g)) return refuse(-1);
        if (i < -1) return refuse(-4);
        if (sort == 1) return refuse(-3);
        String word = writtenOf(walks.get(g));
        if (i == -1) return word.length();
        return i < word.length() ? word.charAt(i) : NONE;
    }

    private long odds(int g, int part) {
        if (noWalk(g)) return farLong(-1);
        if (part != 0 && part != 1) return farLong(-2);
        int above = walks.get(g).lit.size();
        int below = n;
        int shared = java.math.BigInteger.valueOf(above).gcd(java.math.BigInteger.valueOf(n)).intValue();
        return (part == 0 ? above : below) / shared;
    }

    private long lots(int times, int k, int z, int what) {
        if (times < 1 || k < 1) return refuse(-4);
        if (times > 30 || k > 12) return refuse(-6);
        if (what != 0 && what != 1) return refuse(-2);
        long lengths = 0;
        long dead = 0;
        for (int i = 0; i < times; i++) {
            Walk w = BARE;
            for (int j = 0; j < k; j++) {
                z = z * 1664525 + 1013904223;
                w = after(w, "aAtT".charAt(((z & Integer.MAX_VALUE) >> 8) % 4));
            }
            lengths += length(w);
            dead += depth(w, 1) == NONE ? 1 : 0;
        }
        return what == 0 ? lengths : dead;
    }

    private long helper(int kind, int figure) {
        if (kind < 0 || kind > 5) return refuse(-2);
        if (figure < 0) return refuse(-4);
        if (figure > 9 || helpers.size() == 4) return refuse(-6);
        helpers.add(new int[] {kind, figure});
        return helpers.size() - 1;
    }

    private boolean noHelper(int h) {
        return h < 0 || h >= helpers.size();
    }

    private long helps(int h, int what) {
        if (noHelper(h)) return far(-1);
        int kind = helpers.get(h)[0];
        int figure = helpers.get(h)[1];
        switch (what) {
            case 0: return kind;
            case 1: return figure;
            case 2: return helped(kind, figure).length();
            case 3: return new int[] {0, 1, -1, 2, figure + 1, -1}[kind];
            default: return far(-2);
        }
    }

    private long taken(int h, int kind) {
        if (noHelper(h)) return refuse(-1);
        if (kind < 0 || kind > 5) return refuse(-2);
        for (int k = helpers.get(h)[0]; k >= 0; k = PARENT[k]) {
            if (k == kind) return helpers.get(h)[0];
        }
        return -16;
    }

    private long done(int h, int g) {
        if (noHelper(h) || noWalk(g)) return refuse(-1);
        Walk made = afterAll(walks.get(g), helped(helpers.get(h)[0], helpers.get(h)[1]));
        if (made == null) return refuse(-6);
        walks.set(g, made);
        return length(made);
    }

    private long step(int g, int letter) {
        if (noWalk(g)) return refuse(-1);
        if (letter < 0 || letter > 3) return refuse(-2);
        Walk made = after(walks.get(g), "aAtT".charAt(letter));
        if (made == null) return refuse(-6);
        walks.set(g, made);
        return length(made);
    }

    private static boolean noList(int list) {
        return list < 0 || list > 2;
    }

    private long list(int list, int size) {
        if (noList(list)) return refuse(-1);
        if (size > 40) return refuse(-6);
        if (size < 0) return -14;
        lists[list] = new int[size];
        return 1;
    }

    private long put(int list, int i, int v) {
        if (noList(list)) return refuse(-1);
        if (lists[list] == null) return -11;
        if (i < 0 || i >= lists[list].length) return -13;
        lists[list][i] = v;
        return 1;
    }

    private long look(int list, int i) {
        if (noList(list)) return farLong(-1);
        if (lists[list] == null) return 4000000000000000011L;
        if (i < 0 || i >= lists[list].length) return 4000000000000000013L;
        return lists[list][i];
    }

    private long lays(int list, int i, int g) {
        if (noList(list) || noWalk(g)) return refuse(-1);
        if (lists[list] == null) return -11;
        if (i < 0 || (long) i + n > lists[list].length) return -13;
        for (int c = 0; c < n; c++) {
            lists[list][i + c] = walks.get(g).lit.getOrDefault(least() + c, 0);
        }
        return n;
    }

    private long from(int list, int end) {
        if (noList(list) || noCorner(end)) return refuse(-1);
        if (walks.size() == 6) return refuse(-6);
        if (lists[list] == null) return -11;
        if (lists[list].length > n) return refuse(-3);
        TreeMap<Integer, Integer> lit = new TreeMap<>();
        for (int i = 0; i < lists[list].length; i++) {
            int v = lists[list][i];
            if (v < 0 || v >= m) return refuse(-3);
            if (v > 0) lit.put(least() + i, v);
        }
        return add(new Walk(lit, end));
    }

    private long judge(int list, int g) {
        if (noList(list) || noWalk(g)) return refuse(-1);
        if (lists[list] == null) return -11;
        for (int i = 0; i < lists[list].length; i++) {
            if (i >= n || lists[list][i] != walks.get(g).lit.getOrDefault(least() + i, 0)) return i;
        }
        return NONE;
    }

    private long image() {
        imageStreet = new int[] {sort, n, m};
        imageWalks = new ArrayList<>(walks);
        imageHelpers = new ArrayList<>(helpers);
        return walks.size();
    }

    private long on() {
        if (imageStreet == null) return refuse(-3);
        sort = imageStreet[0];
        n = imageStreet[1];
        m = imageStreet[2];
        walks = new ArrayList<>(imageWalks);
        helpers = new ArrayList<>(imageHelpers);
        return walks.size();
    }

    private long count(int what) {
        switch (what) {
            case 0: return sort;
            case 1: return n;
            case 2: return m;
            case 3: return walks.size();
            case 4: return helpers.size();
            case 5: return letters.length();
            default: return what >= 11 && what <= 16 ? refusals[what - 10] : NONE;
        }
    }
}
