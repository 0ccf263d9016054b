/** What the tests do over and over with an object. */
final class Told {
    static final long FAR = 1000000000L;
    static final long FAR_LONG = 4000000000000000000L;

    private Told() {
    }

    static void tell(LampsAlongStreets x, String letters) {
        for (int i = 0; i < letters.length(); i++) {
            x.letter(letters.charAt(i));
        }
    }

    /** Tells a word and makes it: what word() answers. */
    static int word(LampsAlongStreets x, String letters) {
        tell(x, letters);
        return x.word();
    }

    static LampsAlongStreets line(int m, String... words) {
        return on(0, 0, m, words);
    }

    static LampsAlongStreets ring(int n, int m, String... words) {
        return on(1, n, m, words);
    }

    private static LampsAlongStreets on(int sort, int n, int m, String... words) {
        LampsAlongStreets x = new LampsAlongStreets();
        x.street(sort, n, m);
        for (String letters : words) {
            if (word(x, letters) < 0) {
                throw new IllegalStateException("no such word: " + letters);
            }
        }
        return x;
    }

    /** So many steps upward (below 0: downward). */
    static String go(int steps) {
        return steps < 0 ? "T".repeat(-steps) : "t".repeat(steps);
    }

    /** A word that turns one lamp after another once on, and ends there; never an empty one. */
    static String lit(int end, int... corners) {
        StringBuilder text = new StringBuilder("aA");
        int at = 0;
        for (int c : corners) {
            text.append(go(c - at)).append('a');
            at = c;
        }
        return text.append(go(end - at)).toString();
    }

    /** Gives an object something of each sort, so that there is something to lose; the IMAGE is another state. */
    static LampsAlongStreets crowded(LampsAlongStreets x) {
        x.helper(4, 3);
        x.image();
        x.helper(1, 9);
        x.list(0, 2);
        x.put(0, 1, 7);
        x.list(2, 0);
        tell(x, "Ta");
        return x;
    }

    /** All that can be asked of a walk without changing anything, as a text. */
    static String walk(LampsAlongStreets x, int walk) {
        StringBuilder text = new StringBuilder();
        text.append(x.of(walk, 0));
        int corners = x.count(1);
        int least = x.count(0) == 0 ? -12 : 0;
        for (int c = least; c < least + corners; c++) {
            text.append(c == 0 ? '|' : ' ').append(x.lamp(walk, c));
        }
        return text.toString();
    }

    /** What refusals there were, -1 to -6, as a text. */
    static String refusals(LampsAlongStreets x) {
        StringBuilder text = new StringBuilder();
        for (int what = 11; what <= 16; what++) {
            text.append(what > 11 ? " " : "").append(x.count(what));
        }
        return text.toString();
    }

    /** The shortest word as written() tells it. */
    static String written(LampsAlongStreets x, int walk) {
        StringBuilder text = new StringBuilder();
        int many = x.written(walk, -1);
        for (int i = 0; i < many; i++) {
            text.append((char) x.written(walk, i));
        }
        return text.toString();
    }
}
