import java.util.ArrayList;
import java.util.List;

/** Every call with every mixture of numbers at and about its boundaries, in many states, against the model. */
final class GridTests {
    private static final int LEAST_INT = Integer.MIN_VALUE;
    private static final int MOST_INT = Integer.MAX_VALUE;
    private static final int[] WALKS = {LEAST_INT, -1, 0, 1, 4, 5, 6, MOST_INT};
    private static final int[] CORNERS = {LEAST_INT, -13, -12, -1, 0, 2, 3, 7, 8, 12, 13, MOST_INT};
    private static final int[] LISTS = {LEAST_INT, -1, 0, 1, 2, 3, MOST_INT};
    private static final int[] PLACES = {LEAST_INT, -1, 0, 1, 2, 14, 15, 16, 24, 25, 32, 33, 36, 39, 40, MOST_INT - 7,
        MOST_INT};
    private static final int[] HELPERS = {LEAST_INT, -1, 0, 1, 3, 4, MOST_INT};
    private static final int[] KINDS = {LEAST_INT, -1, 0, 1, 2, 3, 4, 5, 6, MOST_INT};
    private static final int[] WHATS = {LEAST_INT, -1, 0, 1, 2, 3, 4, 5, 6, 7, 8, MOST_INT};
    private static final int[] PARTS = {LEAST_INT, -1, 0, 1, 2, MOST_INT};

    private final Check check;
    private final Object[][] state;
    private LampsAlongStreets x;
    private Model model;

    private GridTests(Check check, Object[][] state) {
        this.check = check;
        this.state = state;
    }

    static void run(Check check) {
        int number = 0;
        for (Object[][] state : states()) {
            GridTests grid = new GridTests(check, state);
            for (String name : FaceTests.names()) {
                grid.all(number, name);
            }
            number++;
        }
    }

    private static int[][] about(String name) {
        switch (name) {
            case "letter": return new int[][] {{LEAST_INT, -1, 0, '0', '1', '9', ':', 'a', 'A', 't', 'T', 'b', 255, 256,
                MOST_INT}};
            case "street": return new int[][] {PARTS, {LEAST_INT, -1, 0, 2, 3, 4, 7, 8, 9, MOST_INT},
                {LEAST_INT, -1, 0, 1, 2, 3, 4, 5, 6, MOST_INT}};
            case "of": return new int[][] {WALKS, WHATS};
            case "lamp": return new int[][] {WALKS, CORNERS};
            case "times": case "conjugate": case "distance": case "like": return new int[][] {WALKS, WALKS};
            case "inverse": return new int[][] {WALKS};
            case "power": return new int[][] {WALKS, WHATS};
            case "sums": return new int[][] {WALKS, {LEAST_INT, -2, -1, 0, 1, 2, 3, 4, 7, 8, 11, 12, 13, MOST_INT}};
            case "sphere": return new int[][] {WHATS};
            case "written": return new int[][] {WALKS, {LEAST_INT, -2, -1, 0, 1, 2, 3, 11, 12, 13, 98, MOST_INT}};
            case "odds": return new int[][] {WALKS, PARTS};
            case "lots": return new int[][] {{LEAST_INT, 0, 1, 30, 31, MOST_INT}, {LEAST_INT, 0, 1, 12, 13, MOST_INT},
                {LEAST_INT, 0, MOST_INT}, PARTS};
            case "helper": return new int[][] {KINDS, {LEAST_INT, -1, 0, 1, 8, 9, 10, MOST_INT}};
            case "helps": return new int[][] {HELPERS, PARTS};
            case "taken": return new int[][] {HELPERS, KINDS};
            case "done": return new int[][] {HELPERS, WALKS};
            case "step": return new int[][] {WALKS, {LEAST_INT, -1, 0, 1, 2, 3, 4, MOST_INT}};
            case "list": return new int[][] {LISTS, {LEAST_INT, -1, 0, 1, 39, 40, 41, MOST_INT}};
            case "put": return new int[][] {LISTS, PLACES, {LEAST_INT, 0, MOST_INT}};
            case "look": return new int[][] {LISTS, PLACES};
            case "lays": return new int[][] {LISTS, PLACES, WALKS};
            case "from": return new int[][] {LISTS, CORNERS};
            case "judge": return new int[][] {LISTS, WALKS};
            case "count": return new int[][] {{LEAST_INT, -1, 0, 1, 2, 3, 4, 5, 6, 10, 11, 12, 13, 14, 15, 16, 17, MOST_INT}};
            default: return new int[0][];
        }
    }

    private void all(int number, String name) {
        int[][] about = about(name);
        int mixtures = 1;
        for (int[] numbers : about) {
            mixtures *= numbers.length;
        }
        for (int mixture = 0; mixture < mixtures; mixture++) {
            int[] given = new int[about.length];
            for (int i = 0, rest = mixture; i < about.length; i++, rest /= about[i - 1].length) {
                given[i] = about[i][rest % about[i].length];
            }
            one(number, name, given);
        }
    }

    private void one(int number, String name, int... given) {
        String call = "state " + number + ", " + Face.told(name, given);
        build();
        check.due(call, FaceTests.call(x, name, given), model.call(name, given));
        check.holds(call + ": WALKS, HELPERS", Portrait.part(Face.of(x), 0).equals(Portrait.part(model, 0)));
        if (name.equals("put") || name.equals("list") || name.equals("lays")) {
            check.holds(call + ": LISTS", Portrait.part(Face.of(x), 1).equals(Portrait.part(model, 1)));
        }
        for (int what = 11; what <= 16; what++) {
            check.due(call + ": REFUSALS " + (10 - what), x.count(what), model.call("count", what));
        }
    }

    private void build() {
        x = new LampsAlongStreets();
        model = new Model();
        for (Object[] call : state) {
            if (call[0].equals("tell")) {
                for (char c : ((String) call[1]).toCharArray()) {
                    both("letter", c);
                }
            } else if (call[0].equals("make")) {
                for (char c : ((String) call[1]).toCharArray()) {
                    both("letter", c);
                }
                both("word");
            } else {
                both((String) call[0], (int[]) call[1]);
            }
        }
    }

    private void both(String name, int... given) {
        FaceTests.call(x, name, given);
        model.call(name, given);
    }

    private static Object[] call(String name, int... given) {
        return new Object[] {name, given};
    }

    private static Object[] make(String letters) {
        return new Object[] {"make", letters};
    }

    private static Object[] tell(String letters) {
        return new Object[] {"tell", letters};
    }

    private static List<Object[][]> states() {
        List<Object[][]> states = new ArrayList<>();
        states.add(new Object[][] {});
        states.add(new Object[][] {tell("b"), call("image"), call("helper", 3, 0)});
        for (int m = 2; m <= 5; m += 3) {
            states.add(line(m, 1));
            states.add(line(m, 5));
            states.add(line(m, 6));
            for (int n = 3; n <= 8; n += 5) {
                states.add(ring(n, m, 1));
                states.add(ring(n, m, 5));
                states.add(ring(n, m, 6));
            }
        }
        return states;
    }

    private static final String[] LINE_WORDS = {Told.lit(-12, 12), Told.lit(12, -12, 0), Told.lit(1, -1, 0, 1),
        Told.lit(0, -1, 0, 0, 1), Told.lit(6, 6, 5), Told.lit(-7, 0, 3)};
    private static final String[] RING_WORDS = {"t", "TaTa", "a3tata2T2", "t2aT2", "aA", "ta2ta2tatat"};

    private static Object[][] line(int m, int walks) {
        return state(0, 25, m, walks, LINE_WORDS);
    }

    private static Object[][] ring(int n, int m, int walks) {
        return state(1, n, m, walks, RING_WORDS);
    }

    /** The more WALKS, the more of all else. */
    private static Object[][] state(int sort, int n, int m, int walks, String[] words) {
        List<Object[]> calls = new ArrayList<>();
        calls.add(call("street", sort, n, m));
        for (int i = 0; i < walks; i++) {
            calls.add(make(words[i]));
        }
        if (walks > 1) {
            calls.add(call("image"));
            calls.add(call("list", 0, n + walks - 5));
            calls.add(call("put", 0, 0, m - 1));
            calls.add(call("put", 0, 1, walks == 5 ? 1 : m));
            calls.add(call("list", 2, walks == 5 ? 0 : 40));
            calls.add(tell(walks == 5 ? "a".repeat(71) : "aA".repeat(36)));
        }
        for (int i = 1; i < walks && i < 5; i++) {
            calls.add(call("helper", i, 3 * i - 3));
        }
        return calls.toArray(new Object[0][]);
    }
}
