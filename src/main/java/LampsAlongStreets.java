/** Lamps along streets, and the walks that turn them on. README.md tells how to use it. */
public final class LampsAlongStreets {
    private static final int LINE = 0;
    private static final int RING = 1;
    private static final int LINE_REACH = 12;
    private static final int LINE_CORNERS = 2 * LINE_REACH + 1;
    private static final int RING_LEAST = 3;
    private static final int RING_MOST = 8;
    private static final int SHADES_LEAST = 2;
    private static final int SHADES_MOST = 5;

    // The letters a, A, t, T; each pair undoes one another, so letter ^ 1 is the way back.
    private static final int TURN_ON = 0;
    private static final int TURN_BACK = 1;
    private static final int UPWARD = 2;
    private static final int DOWNWARD = 3;
    private static final int LETTER_KINDS = 4;
    private static final int[] SIGNS = {97, 65, 116, 84};

    private static final int TURNER = 0;
    private static final int WALKER = 1;
    private static final int BACKER = 2;
    private static final int TWICE = 3;
    private static final int FAR = 4;
    private static final int MILD = 5;
    private static final int FIGURE_MOST = 9;

    private static final int WALKS_MOST = 6;
    private static final int HELPERS_MOST = 4;
    private static final int TOLD_MOST = 72;
    private static final int SIGN_MOST = 255;
    private static final int LISTS = 3;
    private static final int LIST_MOST = 40;
    private static final int POWER_MOST = 6;
    private static final int SPHERE_MOST = 5;
    private static final int DEPTH_MOST = 4;
    private static final int LOTS_MOST = 30;
    private static final int LOT_LETTERS_MOST = 12;
    // No word that is spelled here has more: 25 lamps turned twice, and 12, 24 and 24 steps.
    private static final int SPELLED_MOST = 110;
    // Four letters first, then never the way back: 4 * 3 * 3 * 3 * 3 walks at most have LENGTH 5.
    private static final int SHELL_MOST = 324;
    private static final int ABOVE_ALL_TOURS = 1000;

    private static final int NOBODY = -1;
    private static final int OTHER = -2;
    private static final int STATE = -3;
    private static final int BELOW = -4;
    private static final int ROOM = -6;
    private static final int REFUSAL_KINDS = 6;
    private static final int NONE = -9;
    private static final int LIST_MISSING = -11;
    private static final int NO_PLACE = -13;
    private static final int SIZE_BELOW = -14;
    private static final int OTHER_KIND = -16;
    private static final int FAULT_IN_TELLING = -1000;
    private static final int FAULT_IN_DOING = -2000;
    private static final int REFUSED_FAR = 1000000000;
    private static final long REFUSED_FAR_LONG = 4000000000000000000L;

    private final Scene now = new Scene(new Street());
    private final Scene then = new Scene(new Street());
    private boolean imageTaken = false;
    private final Row told = new Row(TOLD_MOST);
    private final Row spelled = new Row(SPELLED_MOST);
    private final Row shell = new Row(SHELL_MOST);
    private final Row[] lists = new Row[LISTS];
    private final int[] refusals = new int[REFUSAL_KINDS];

    public LampsAlongStreets() {
    }

    // ---- the street, walks

    public int letter(int c) {
        if (c < 0) {
            return refuse(BELOW);
        }
        if (c > SIGN_MOST || !told.add(c)) {
            return refuse(ROOM);
        }
        return told.size;
    }

    public int word() {
        Walk next = now.freeWalk();
        if (next == null) {
            return refuse(ROOM);
        }
        int answer = makeTold(next);
        told.clear();
        return answer;
    }

    public int street(int sort, int n, int m) {
        if (sort != LINE && sort != RING) {
            return refuse(OTHER);
        }
        if (sort == RING && n < RING_LEAST || m < SHADES_LEAST) {
            return refuse(BELOW);
        }
        if (sort == RING && n > RING_MOST || m > SHADES_MOST) {
            return refuse(ROOM);
        }
        now.street.become(sort, sort == RING ? n : LINE_CORNERS, m);
        now.walkCount = 0;
        now.helperCount = 0;
        return now.street.corners;
    }

    public int drop() {
        if (now.walkCount <= 0) {
            return refuse(STATE);
        }
        now.walkCount--;
        return now.walkCount;
    }

    public int of(int walk, int what) {
        Walk w = now.walkAt(walk);
        if (w == null) {
            return refuseFar(NOBODY);
        }
        switch (what) {
            case 0: return w.end;
            case 1: return w.litLamps();
            case 2: return w.length();
            case 3: return w.turns();
            case 4: return w.tourFrom(0);
            case 5: return w.isDead() ? 1 : 0;
            case 6: return w.depth();
            case 7: return w.order();
            default: return refuseFar(OTHER);
        }
    }

    public int lamp(int walk, int corner) {
        Walk w = now.walkAt(walk);
        if (w == null || !now.street.has(corner)) {
            return refuse(NOBODY);
        }
        return w.shows(corner);
    }

    public int times(int g, int h) {
        Walk left = now.walkAt(g);
        Walk right = now.walkAt(h);
        if (left == null || right == null) {
            return refuse(NOBODY);
        }
        Walk next = now.freeWalk();
        if (next == null) {
            return refuse(ROOM);
        }
        next.copyFrom(left);
        return next.multiplyBy(right) ? now.keepFreeWalk() : refuse(ROOM);
    }

    public int inverse(int g) {
        Walk walk = now.walkAt(g);
        if (walk == null) {
            return refuse(NOBODY);
        }
        Walk next = now.freeWalk();
        if (next == null || !next.becomeInverseOf(walk)) {
            return refuse(ROOM);
        }
        return now.keepFreeWalk();
    }

    public int power(int g, int k) {
        Walk walk = now.walkAt(g);
        if (walk == null) {
            return refuse(NOBODY);
        }
        if (k < 0) {
            return refuse(BELOW);
        }
        Walk next = now.freeWalk();
        if (k > POWER_MOST || next == null || !next.becomePowerOf(walk, k)) {
            return refuse(ROOM);
        }
        return now.keepFreeWalk();
    }

    public int conjugate(int g, int h) {
        Walk walk = now.walkAt(g);
        Walk by = now.walkAt(h);
        if (walk == null || by == null) {
            return refuse(NOBODY);
        }
        Walk next = now.freeWalk();
        if (next == null) {
            return refuse(ROOM);
        }
        boolean made = next.becomeInverseOf(by) && next.multiplyBy(walk) && next.multiplyBy(by);
        return made ? now.keepFreeWalk() : refuse(ROOM);
    }

    // ---- lengths, likes

    public int distance(int g, int h) {
        Walk from = now.walkAt(g);
        Walk to = now.walkAt(h);
        if (from == null || to == null) {
            return refuse(NOBODY);
        }
        // Seen from the END of g nothing need be moved, so no last CORNER comes in the way.
        Walk difference = now.spare;
        difference.becomeDifference(from, to);
        return difference.turns() + difference.tourFrom(from.end);
    }

    public int like(int g, int h) {
        Walk one = now.walkAt(g);
        Walk other = now.walkAt(h);
        if (one == null || other == null) {
            return refuse(NOBODY);
        }
        return one.isLike(other) ? 1 : 0;
    }

    public int sums(int walk, int j) {
        Walk w = now.walkAt(walk);
        if (w == null) {
            return refuse(NOBODY);
        }
        if (j < -1) {
            return refuse(BELOW);
        }
        int many = w.sumsCount();
        if (j == -1) {
            return many;
        }
        return j < many ? w.sumAt(j, many) : NONE;
    }

    public int sphere(int k) {
        if (k < 0) {
            return refuse(BELOW);
        }
        if (k > SPHERE_MOST) {
            return refuse(ROOM);
        }
        shell.clear();
        Walk walk = now.spare;
        walk.clear();
        gatherShell(walk, 0, k, shell);
        return shell.size;
    }

    public int written(int walk, int i) {
        Walk w = now.walkAt(walk);
        if (w == null) {
            return refuse(NOBODY);
        }
        if (i < -1) {
            return refuse(BELOW);
        }
        if (!now.street.isLine()) {
            return refuse(STATE);
        }
        new Writer(w, spelled).writeWhole();
        if (i == -1) {
            return spelled.size;
        }
        return spelled.has(i) ? signOf(spelled.at(i)) : NONE;
    }

    public long odds(int walk, int part) {
        Walk w = now.walkAt(walk);
        if (w == null) {
            return refuseFarLong(NOBODY);
        }
        if (part != 0 && part != 1) {
            return refuseFarLong(OTHER);
        }
        int lit = w.litLamps();
        int all = now.street.corners;
        int shared = greatestDivisor(lit, all);
        return (part == 0 ? lit : all) / Math.max(shared, 1);
    }

    public int lots(int n, int k, int z, int what) {
        if (n < 1 || k < 1) {
            return refuse(BELOW);
        }
        if (n > LOTS_MOST || k > LOT_LETTERS_MOST) {
            return refuse(ROOM);
        }
        if (what != 0 && what != 1) {
            return refuse(OTHER);
        }
        Walk walk = now.spare;
        int seed = z;
        int lengths = 0;
        int dead = 0;
        for (int lot = 0; lot < n; lot++) {
            walk.clear();
            for (int i = 0; i < k; i++) {
                seed = nextSeed(seed);
                walk.goOn(drawn(seed, LETTER_KINDS));
            }
            lengths += walk.length();
            dead += walk.isDead() ? 1 : 0;
        }
        return what == 0 ? lengths : dead;
    }

    // ---- helpers

    public int helper(int kind, int figure) {
        if (!isKind(kind)) {
            return refuse(OTHER);
        }
        if (figure < 0) {
            return refuse(BELOW);
        }
        if (figure > FIGURE_MOST || now.helperCount >= HELPERS_MOST) {
            return refuse(ROOM);
        }
        return now.addHelper(newHelper(kind, figure));
    }

    public int helps(int helper, int what) {
        Turner one = now.helperAt(helper);
        if (one == null) {
            return refuseFar(NOBODY);
        }
        spelled.clear();
        one.spell(spelled);
        switch (what) {
            case 0: return one.kind();
            case 1: return one.figure;
            case 2: return spelled.size;
            case 3: return spelled.howMany(UPWARD) - spelled.howMany(DOWNWARD);
            default: return refuseFar(OTHER);
        }
    }

    public int taken(int helper, int kind) {
        Turner one = now.helperAt(helper);
        if (one == null) {
            return refuse(NOBODY);
        }
        if (!isKind(kind)) {
            return refuse(OTHER);
        }
        return isOfKind(one, kind) ? one.kind() : OTHER_KIND;
    }

    public int done(int helper, int walk) {
        Turner one = now.helperAt(helper);
        Walk w = now.walkAt(walk);
        if (one == null || w == null) {
            return refuse(NOBODY);
        }
        spelled.clear();
        one.spell(spelled);
        Walk tried = now.spare;
        tried.copyFrom(w);
        for (int i = 0; i < spelled.size; i++) {
            if (!tried.goOn(spelled.at(i))) {
                return refuse(ROOM);
            }
        }
        w.copyFrom(tried);
        return w.length();
    }

    public int step(int walk, int letter) {
        Walk w = now.walkAt(walk);
        if (w == null) {
            return refuse(NOBODY);
        }
        if (letter < 0 || letter >= LETTER_KINDS) {
            return refuse(OTHER);
        }
        return w.goOn(letter) ? w.length() : refuse(ROOM);
    }

    // ---- lists of numbers

    public int list(int list, int n) {
        if (!isList(list)) {
            return refuse(NOBODY);
        }
        if (n > LIST_MOST) {
            return refuse(ROOM);
        }
        if (n < 0) {
            return SIZE_BELOW;
        }
        Row row = listAt(list);
        if (row == null) {
            row = new Row(LIST_MOST);
            lists[list] = row;
        }
        row.clear();
        row.addMany(0, n);
        return 1;
    }

    public int put(int list, int i, int v) {
        if (!isList(list)) {
            return refuse(NOBODY);
        }
        Row row = listAt(list);
        if (row == null) {
            return LIST_MISSING;
        }
        if (!row.has(i)) {
            return NO_PLACE;
        }
        row.set(i, v);
        return 1;
    }

    public long look(int list, int i) {
        if (!isList(list)) {
            return refuseFarLong(NOBODY);
        }
        Row row = listAt(list);
        if (row == null) {
            return REFUSED_FAR_LONG - LIST_MISSING;
        }
        if (!row.has(i)) {
            return REFUSED_FAR_LONG - NO_PLACE;
        }
        return row.at(i);
    }

    public int lays(int list, int i, int walk) {
        Walk w = now.walkAt(walk);
        if (!isList(list) || w == null) {
            return refuse(NOBODY);
        }
        Row row = listAt(list);
        if (row == null) {
            return LIST_MISSING;
        }
        int many = now.street.corners;
        if (i < 0 || i > row.size - many) {
            return NO_PLACE;
        }
        for (int place = 0; place < many; place++) {
            row.set(i + place, w.showsAtPlace(place));
        }
        return many;
    }

    public int from(int list, int end) {
        if (!isList(list) || !now.street.has(end)) {
            return refuse(NOBODY);
        }
        Walk next = now.freeWalk();
        if (next == null) {
            return refuse(ROOM);
        }
        Row row = listAt(list);
        if (row == null) {
            return LIST_MISSING;
        }
        return next.becomeTold(row, end) ? now.keepFreeWalk() : refuse(STATE);
    }

    public int judge(int list, int walk) {
        Walk w = now.walkAt(walk);
        if (!isList(list) || w == null) {
            return refuse(NOBODY);
        }
        Row row = listAt(list);
        if (row == null) {
            return LIST_MISSING;
        }
        for (int i = 0; i < row.size; i++) {
            if (i >= now.street.corners || row.at(i) != w.showsAtPlace(i)) {
                return i;
            }
        }
        return NONE;
    }

    // ---- the image

    public int image() {
        then.copyFrom(now);
        imageTaken = true;
        return then.walkCount;
    }

    public int on() {
        if (!imageTaken) {
            return refuse(STATE);
        }
        now.copyFrom(then);
        return now.walkCount;
    }

    public int count(int what) {
        switch (what) {
            case 0: return now.street.sort;
            case 1: return now.street.corners;
            case 2: return now.street.shades;
            case 3: return now.walkCount;
            case 4: return now.helperCount;
            case 5: return told.size;
            default: break;
        }
        int refusal = what - 11;
        boolean known = what >= 11 && refusal < refusals.length;
        return known ? refusals[refusal] : NONE;
    }

    // ---- what the calls share

    private int refuse(int refusal) {
        int place = -1 - refusal;
        if (place >= 0 && place < refusals.length) {
            refusals[place]++;
        }
        return refusal;
    }

    private int refuseFar(int refusal) {
        return REFUSED_FAR - refuse(refusal);
    }

    private long refuseFarLong(int refusal) {
        return REFUSED_FAR_LONG - refuse(refusal);
    }

    private boolean isList(int list) {
        return list >= 0 && list < lists.length;
    }

    private Row listAt(int list) {
        return isList(list) ? lists[list] : null;
    }

    /** Makes of the walk what the letters tell: its number, or the FAULT. */
    private int makeTold(Walk walk) {
        int stranger = firstStranger();
        if (stranger >= 0) {
            return FAULT_IN_TELLING - stranger;
        }
        walk.clear();
        for (int i = 0; i < told.size; i++) {
            int letter = letterOf(told.at(i));
            int often = isDigit(told.at(i + 1)) ? told.at(i + 1) - '0' : 1;
            for (int time = 0; letter >= 0 && time < often; time++) {
                if (!walk.goOn(letter)) {
                    return FAULT_IN_DOING - i;
                }
            }
        }
        return now.keepFreeWalk();
    }

    /** The place of the first letter with which no WORD goes on, or -1. */
    private int firstStranger() {
        boolean digitMay = false;
        for (int i = 0; i < told.size; i++) {
            boolean isLetter = letterOf(told.at(i)) >= 0;
            if (!isLetter && !(digitMay && isDigit(told.at(i)))) {
                return i;
            }
            digitMay = isLetter;
        }
        return told.size == 0 ? 0 : -1;
    }

    /** Walks on from one whose LENGTH is depth; only shortest words can lead on to shortest words. */
    private static void gatherShell(Walk walk, int depth, int k, Row found) {
        if (depth > SPHERE_MOST || walk.length() != depth) {
            return;
        }
        if (depth >= k) {
            found.addOnce(walk.nearCode());
            return;
        }
        for (int letter = 0; letter < LETTER_KINDS; letter++) {
            if (walk.goOn(letter)) {
                gatherShell(walk, depth + 1, k, found);
                walk.goOn(letter ^ 1);
            }
        }
    }

    private static int letterOf(int sign) {
        for (int letter = 0; letter < SIGNS.length; letter++) {
            if (SIGNS[letter] == sign) {
                return letter;
            }
        }
        return -1;
    }

    private static int signOf(int letter) {
        return letter >= 0 && letter < SIGNS.length ? SIGNS[letter] : NONE;
    }

    private static boolean isDigit(int sign) {
        return sign >= '1' && sign <= '9';
    }

    private static int around(int number, int size) {
        return size > 0 ? Math.floorMod(number, size) : 0;
    }

    /** Of two numbers from 0 on; the other one, if one is 0. */
    private static int greatestDivisor(int a, int b) {
        for (int divisor = Math.max(a, b); divisor > 1; divisor--) {
            if (a % divisor == 0 && b % divisor == 0) {
                return divisor;
            }
        }
        return 1;
    }

    private static int nextSeed(int seed) {
        return seed * 1664525 + 1013904223;
    }

    private static int drawn(int seed, int below) {
        return around((seed & 0x7fffffff) / 256, below);
    }

    private static boolean isKind(int kind) {
        return kind >= TURNER && kind <= MILD;
    }

    private static Turner newHelper(int kind, int figure) {
        switch (kind) {
            case WALKER: return new Walker(figure);
            case BACKER: return new Backer(figure);
            case TWICE: return new Twice(figure);
            case FAR: return new Far(figure);
            case MILD: return new Mild(figure);
            default: return new Turner(figure);
        }
    }

    private static boolean isOfKind(Turner helper, int kind) {
        switch (kind) {
            case TURNER: return true;
            case WALKER: return helper instanceof Walker;
            case BACKER: return helper instanceof Backer;
            case TWICE: return helper instanceof Twice;
            case FAR: return helper instanceof Far;
            case MILD: return helper instanceof Mild;
            default: return false;
        }
    }

    /** How far it is from 0 by two turning points, of which one that is 0 is none, to a goal. */
    private static int trip(int first, int second, int goal) {
        int last = second == 0 ? first : second;
        return Math.abs(first) + Math.abs(last - first) + Math.abs(goal - last);
    }

    private static int shorterTrip(int low, int high, int goal) {
        return Math.min(trip(low, high, goal), trip(high, low, goal));
    }

    /** THE STREET's own figures. */
    private static final class Street {
        private int sort = LINE;
        private int corners = LINE_CORNERS;
        private int shades = SHADES_LEAST;

        void become(int newSort, int newCorners, int newShades) {
            sort = newSort;
            corners = newCorners;
            shades = newShades;
        }

        void copyFrom(Street other) {
            become(other.sort, other.corners, other.shades);
        }

        boolean isLine() {
            return sort == LINE;
        }

        int least() {
            return sort == LINE ? -LINE_REACH : 0;
        }

        boolean has(int corner) {
            return corner >= least() && corner < least() + corners;
        }

        int placeOf(int corner) {
            return has(corner) ? corner - least() : -1;
        }

        /** Where one comes to; on a LINE perhaps no CORNER any more. */
        int reach(int corner, int by) {
            return sort == RING ? around(corner + by, corners) : corner + by;
        }
    }

    /** Lamps, in a row from the least CORNER on, and an END. */
    private static final class Walk {
        private final Street street;
        // The places of a short ring's missing corners always show 0.
        private final int[] lamps = new int[LINE_CORNERS];
        private int end = 0;

        Walk(Street street) {
            this.street = street;
        }

        void clear() {
            for (int place = 0; place < lamps.length; place++) {
                lamps[place] = 0;
            }
            end = 0;
        }

        void copyFrom(Walk other) {
            for (int place = 0; place < lamps.length; place++) {
                lamps[place] = other.showsAtPlace(place);
            }
            end = other.end;
        }

        int showsAtPlace(int place) {
            return place >= 0 && place < lamps.length ? lamps[place] : 0;
        }

        int shows(int corner) {
            return showsAtPlace(street.placeOf(corner));
        }

        private void turn(int corner, int by) {
            int place = street.placeOf(corner);
            if (place >= 0 && place < lamps.length) {
                lamps[place] = around(lamps[place] + by, street.shades);
            }
        }

        /** Does a letter; tells whether it could. */
        boolean goOn(int letter) {
            switch (letter) {
                case TURN_ON:
                    turn(end, 1);
                    return true;
                case TURN_BACK:
                    turn(end, -1);
                    return true;
                case UPWARD:
                    return moveEnd(1);
                case DOWNWARD:
                    return moveEnd(-1);
                default:
                    return false;
            }
        }

        private boolean moveEnd(int by) {
            int to = street.reach(end, by);
            if (!street.has(to)) {
                return false;
            }
            end = to;
            return true;
        }

        /** Becomes itself TIMES another object than itself; stays as it is, if that can't be. */
        boolean multiplyBy(Walk other) {
            int newEnd = street.reach(end, other.end);
            if (!street.has(newEnd) || !other.fitsMoved(end)) {
                return false;
            }
            for (int place = 0; place < lamps.length; place++) {
                int corner = street.reach(street.least() + place, end);
                turn(corner, other.showsAtPlace(place));
            }
            end = newEnd;
            return true;
        }

        private boolean fitsMoved(int by) {
            for (int place = 0; place < lamps.length; place++) {
                if (lamps[place] > 0 && !street.has(street.reach(street.least() + place, by))) {
                    return false;
                }
            }
            return true;
        }

        boolean becomeInverseOf(Walk other) {
            if (!other.fitsMoved(-other.end)) {
                return false;
            }
            clear();
            for (int place = 0; place < lamps.length; place++) {
                int corner = street.reach(street.least() + place, -other.end);
                turn(corner, -other.showsAtPlace(place));
            }
            end = street.reach(0, -other.end);
            return true;
        }

        boolean becomePowerOf(Walk other, int k) {
            clear();
            for (int time = 0; time < k; time++) {
                if (!multiplyBy(other)) {
                    return false;
                }
            }
            return true;
        }

        /** Becomes the lamps by which the second differs from the first, with the second's END. */
        void becomeDifference(Walk first, Walk second) {
            for (int place = 0; place < lamps.length; place++) {
                int more = second.showsAtPlace(place) - first.showsAtPlace(place);
                lamps[place] = around(more, street.shades);
            }
            end = second.end;
        }

        boolean becomeTold(Row row, int newEnd) {
            if (row.size > street.corners) {
                return false;
            }
            for (int i = 0; i < row.size; i++) {
                if (row.at(i) < 0 || row.at(i) >= street.shades) {
                    return false;
                }
            }
            for (int place = 0; place < lamps.length; place++) {
                lamps[place] = row.at(place);
            }
            end = newEnd;
            return true;
        }

        int litLamps() {
            int lit = 0;
            for (int place = 0; place < lamps.length; place++) {
                lit += lamps[place] > 0 ? 1 : 0;
            }
            return lit;
        }

        int turns() {
            int turns = 0;
            for (int place = 0; place < lamps.length; place++) {
                turns += Math.min(lamps[place], street.shades - lamps[place]);
            }
            return turns;
        }

        int length() {
            return turns() + tourFrom(0);
        }

        int tourFrom(int start) {
            if (street.isLine()) {
                return shorterTrip(lowFrom(start), highFrom(start), end - start);
            }
            int size = street.corners;
            int goal = around(end - start, size);
            int best = ABOVE_ALL_TOURS;
            int up = 0;
            // The ring unrolled: lit corners up to this far are reached upward, all others downward.
            for (int far = 0; far < size; far++) {
                if (showsAtPlace(around(start + far, size)) > 0) {
                    up = far;
                }
                int down = size - 1 - far;
                int ahead = shorterTrip(-down, up, goal);
                int behind = shorterTrip(-down, up, goal - size);
                best = Math.min(best, Math.min(ahead, behind));
            }
            return best;
        }

        /** How the least lit corner lies, seen from a start; 0, if it isn't below that. */
        int lowFrom(int start) {
            int low = 0;
            for (int place = 0; place < lamps.length; place++) {
                if (lamps[place] > 0) {
                    low = Math.min(low, street.least() + place - start);
                }
            }
            return low;
        }

        /** How the greatest lit corner lies, seen from a start; 0, if it isn't above that. */
        int highFrom(int start) {
            int high = 0;
            for (int place = 0; place < lamps.length; place++) {
                if (lamps[place] > 0) {
                    high = Math.max(high, street.least() + place - start);
                }
            }
            return high;
        }

        boolean isDead() {
            return !growsBy(this, length(), 1);
        }

        int depth() {
            int base = length();
            for (int letters = 1; letters <= DEPTH_MOST; letters++) {
                if (growsBy(this, base, letters)) {
                    return letters;
                }
            }
            return NONE;
        }

        /** Whether just so many letters more make it longer than base; leaves it as it was. */
        private static boolean growsBy(Walk walk, int base, int letters) {
            if (letters <= 0) {
                return walk.length() > base;
            }
            boolean grows = false;
            for (int letter = 0; letter < LETTER_KINDS && !grows; letter++) {
                if (letters <= DEPTH_MOST && walk.goOn(letter)) {
                    grows = growsBy(walk, base, letters - 1);
                    walk.goOn(letter ^ 1);
                }
            }
            return grows;
        }

        int sumsCount() {
            return street.isLine() ? Math.abs(end) : greatestDivisor(end, street.corners);
        }

        int sumAt(int j, int many) {
            int sum = 0;
            for (int place = 0; place < lamps.length; place++) {
                if (around(street.least() + place, many) == j) {
                    sum += lamps[place];
                }
            }
            return around(sum, street.shades);
        }

        boolean isLike(Walk other) {
            if (end != other.end) {
                return false;
            }
            int many = sumsCount();
            return many == 0 ? isMovedLike(other) : isSummedLike(other, many);
        }

        private boolean isMovedLike(Walk other) {
            int low = firstLit();
            int otherLow = other.firstLit();
            for (int i = 0; i < lamps.length; i++) {
                if (showsAtPlace(low + i) != other.showsAtPlace(otherLow + i)) {
                    return false;
                }
            }
            return true;
        }

        /** The place of the first lit lamp; behind all places, if there is none. */
        private int firstLit() {
            int place = 0;
            while (place < lamps.length && lamps[place] == 0) {
                place++;
            }
            return place;
        }

        private boolean isSummedLike(Walk other, int many) {
            for (int by = 0; by < many; by++) {
                int same = 0;
                while (same < many && sumAt(same, many) == other.sumAt(around(same + by, many), many)) {
                    same++;
                }
                if (same == many) {
                    return true;
                }
            }
            return false;
        }

        /** After so many rounds that END is 0 again, its lamps show SUMS, and count on by themselves. */
        int order() {
            if (street.isLine() && end != 0) {
                return NONE;
            }
            int many = street.isLine() ? street.corners : sumsCount();
            int rounds = street.corners / Math.max(many, 1);
            for (int k = 1; k <= street.shades; k++) {
                if (vanishes(k, many)) {
                    return rounds * k;
                }
            }
            return NONE;
        }

        private boolean vanishes(int k, int many) {
            for (int j = 0; j < many; j++) {
                if (around(sumAt(j, many) * k, street.shades) != 0) {
                    return false;
                }
            }
            return true;
        }

        /** One number for each walk of LENGTH 5 or less: its lamps reach no more than 5 corners. */
        int nearCode() {
            int first = street.isLine() ? -SPHERE_MOST : 0;
            int last = street.isLine() ? SPHERE_MOST : street.corners - 1;
            int code = end - first;
            for (int corner = first; corner <= last; corner++) {
                code = code * SHADES_MOST + shows(corner);
            }
            return code;
        }
    }

    /** Writes a shortest word of a walk on a line into a row. */
    private static final class Writer {
        private final Walk walk;
        private final Row row;
        private int at = 0;
        private int seenLow = 0;
        private int seenHigh = 0;

        Writer(Walk walk, Row row) {
            this.walk = walk;
            this.row = row;
        }

        void writeWhole() {
            row.clear();
            int low = walk.lowFrom(0);
            int high = walk.highFrom(0);
            boolean upFirst = trip(high, low, walk.end) < trip(low, high, walk.end);
            int first = upFirst ? high : low;
            int second = upFirst ? low : high;
            turnLamp();
            goTo(first);
            goTo(second == 0 ? first : second);
            goTo(walk.end);
        }

        private void goTo(int goal) {
            int steps = Math.abs(goal - at);
            int by = goal > at ? 1 : -1;
            for (int i = 0; i < steps; i++) {
                row.add(by > 0 ? UPWARD : DOWNWARD);
                at += by;
                if (at < seenLow || at > seenHigh) {
                    turnLamp();
                }
            }
        }

        private void turnLamp() {
            seenLow = Math.min(seenLow, at);
            seenHigh = Math.max(seenHigh, at);
            int on = walk.shows(at);
            int back = walk.street.shades - on;
            row.addMany(on <= back ? TURN_ON : TURN_BACK, Math.min(on, back));
        }
    }

    /** Numbers one behind another, up to a room that is made once. */
    private static final class Row {
        private final int[] numbers;
        private int size = 0;

        Row(int room) {
            numbers = new int[Math.max(room, 0)];
        }

        void clear() {
            size = 0;
        }

        boolean add(int number) {
            if (size < 0 || size >= numbers.length) {
                return false;
            }
            numbers[size] = number;
            size++;
            return true;
        }

        void addMany(int number, int often) {
            for (int i = 0; i < often; i++) {
                add(number);
            }
        }

        void addOnce(int number) {
            for (int i = 0; i < size && i < numbers.length; i++) {
                if (numbers[i] == number) {
                    return;
                }
            }
            add(number);
        }

        boolean has(int i) {
            return i >= 0 && i < size && i < numbers.length;
        }

        int at(int i) {
            return has(i) ? numbers[i] : 0;
        }

        void set(int i, int number) {
            if (has(i)) {
                numbers[i] = number;
            }
        }

        int howMany(int number) {
            int many = 0;
            for (int i = 0; i < size; i++) {
                many += at(i) == number ? 1 : 0;
            }
            return many;
        }
    }

    /** What an image keeps: the street, walks, helpers. */
    private static final class Scene {
        private final Street street;
        private final Walk[] walks = new Walk[WALKS_MOST];
        private int walkCount = 0;
        // No WALK: a call tries out on it what may come to nothing.
        private final Walk spare;
        private final Turner[] helpers = new Turner[HELPERS_MOST];
        private int helperCount = 0;

        Scene(Street street) {
            this.street = street;
            spare = new Walk(street);
            for (int i = 0; i < walks.length; i++) {
                walks[i] = new Walk(street);
            }
        }

        Walk walkAt(int number) {
            boolean there = number >= 0 && number < walkCount && number < walks.length;
            return there ? walks[number] : null;
        }

        /** The object that the next walk will be; what it shows is free until it is kept. */
        Walk freeWalk() {
            return walkCount >= 0 && walkCount < walks.length ? walks[walkCount] : null;
        }

        int keepFreeWalk() {
            walkCount++;
            return walkCount - 1;
        }

        Turner helperAt(int number) {
            boolean there = number >= 0 && number < helperCount && number < helpers.length;
            return there ? helpers[number] : null;
        }

        int addHelper(Turner helper) {
            if (helperCount < 0 || helperCount >= helpers.length) {
                return ROOM;
            }
            helpers[helperCount] = helper;
            helperCount++;
            return helperCount - 1;
        }

        void copyFrom(Scene other) {
            street.copyFrom(other.street);
            walkCount = 0;
            for (int i = 0; i < other.walkCount; i++) {
                Walk mine = freeWalk();
                Walk its = other.walkAt(i);
                if (mine != null && its != null) {
                    mine.copyFrom(its);
                    keepFreeWalk();
                }
            }
            helperCount = 0;
            for (int i = 0; i < other.helperCount; i++) {
                addHelper(other.helperAt(i));
            }
        }
    }

    /** The helper from which all others come; it never changes, so an image may share it. */
    private static class Turner {
        final int figure;

        Turner(int figure) {
            this.figure = figure;
        }

        int kind() {
            return TURNER;
        }

        void spell(Row row) {
            row.addMany(TURN_ON, figure + 1);
        }
    }

    private static class Walker extends Turner {
        Walker(int figure) {
            super(figure);
        }

        int kind() {
            return WALKER;
        }

        void spell(Row row) {
            row.add(UPWARD);
            super.spell(row);
        }
    }

    private static class Backer extends Turner {
        Backer(int figure) {
            super(figure);
        }

        int kind() {
            return BACKER;
        }

        void spell(Row row) {
            super.spell(row);
            row.add(DOWNWARD);
        }
    }

    private static final class Twice extends Walker {
        Twice(int figure) {
            super(figure);
        }

        int kind() {
            return TWICE;
        }

        void spell(Row row) {
            super.spell(row);
            super.spell(row);
        }
    }

    private static final class Far extends Walker {
        Far(int figure) {
            super(figure);
        }

        int kind() {
            return FAR;
        }

        void spell(Row row) {
            row.addMany(UPWARD, figure);
            super.spell(row);
        }
    }

    private static final class Mild extends Backer {
        Mild(int figure) {
            super(figure);
        }

        int kind() {
            return MILD;
        }

        void spell(Row row) {
            super.spell(row);
            row.add(TURN_BACK);
        }
    }
}
