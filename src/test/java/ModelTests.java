import java.util.ArrayList;
import java.util.List;

/** Runs of calls by lot, each answer held against the model; and whole small streets, all walks. */
final class ModelTests {
    private static final int RUNS = 600;
    private static final int CALLS = 512;
    private static final int[] WILD = {
        Integer.MIN_VALUE, -1000, -13, -12, -2, -1, 0, 1, 2, 3, 5, 6, 7, 9, 11, 12, 13, 17, 24, 25, 26,
        40, 41, 72, 255, 256, 1000, Integer.MAX_VALUE - 11, Integer.MAX_VALUE};
    private static final String[] NAMES = {
        "letter", "word", "street", "drop", "of", "lamp", "times", "inverse", "power", "conjugate",
        "distance", "like", "sums", "sphere", "written", "odds", "lots", "helper", "helps", "taken",
        "done", "step", "list", "put", "look", "lays", "from", "judge", "image", "on", "count"};
    private static final int[] PLACES = {
        1, 0, 3, 0, 2, 2, 2, 1, 2, 2, 2, 2, 2, 1, 2, 2, 4, 2, 2, 2, 2, 2, 2, 3, 2, 3, 2, 2, 0, 0, 1};
    // How often each call comes: letters and lists are many, a new street is seldom.
    private static final int[] WEIGHTS = {
        40, 6, 1, 3, 14, 4, 5, 4, 3, 4, 5, 8, 6, 1, 6, 2, 2, 2, 4, 4, 5, 6, 3, 14, 3, 2, 8, 4, 1, 1, 4};

    private final Check check;
    private long seed;
    private LampsAlongStreets x;
    private Model model;

    private ModelTests(Check check, long seed) {
        this.check = check;
        this.seed = seed;
    }

    static void run(Check check) {
        for (int run = 0; run < RUNS; run++) {
            new ModelTests(check, run).oneRun(run);
        }
        ModelTests whole = new ModelTests(check, 1);
        for (int n = 3; n <= 8; n++) {
            whole.allOfRing(n);
        }
        whole.shortWords();
    }

    private int below(int bound) {
        seed = seed * 6364136223846793005L + 1442695040888963407L;
        return (int) Long.remainderUnsigned(seed >>> 20, bound);
    }

    private void oneRun(int run) {
        x = new LampsAlongStreets();
        model = new Model();
        int sort = run % 3 == 0 ? 0 : 1;
        both(run, "street", sort, 3 + below(6), 2 + below(4));
        int wildness = run % 4 == 0 ? 4 : 25;
        for (int i = 1; i < CALLS; i++) {
            int which = drawName();
            int[] given = new int[PLACES[which]];
            for (int place = 0; place < given.length; place++) {
                given[place] = below(wildness) == 0 ? WILD[below(WILD.length)] : tame(NAMES[which], place);
            }
            both(run, NAMES[which], given);
        }
    }

    private int drawName() {
        int all = 0;
        for (int weight : WEIGHTS) {
            all += weight;
        }
        int drawn = below(all);
        int which = 0;
        while (drawn >= WEIGHTS[which]) {
            drawn -= WEIGHTS[which];
            which++;
        }
        return which;
    }

    /** A number that makes sense there, mostly. */
    private int tame(String name, int place) {
        switch (name + place) {
            case "letter0": return "aAtTaAtTaAtTaAtT123456789x".charAt(below(26));
            case "street0": return below(2);
            case "street1": return 3 + below(6);
            case "street2": return 2 + below(4);
            case "of1": return below(8);
            case "lamp1": return below(25) - 12;
            case "power1": return below(7);
            case "sums1": return below(10) - 1;
            case "sphere0": return below(6);
            case "written1": return below(40) - 1;
            case "odds1": return below(2);
            case "lots0": return 1 + below(6);
            case "lots1": return 1 + below(12);
            case "lots2": return below(Integer.MAX_VALUE);
            case "lots3": return below(2);
            case "helper0": return below(6);
            case "helper1": return below(10);
            case "helps0": case "taken0": case "done0": return below(4);
            case "helps1": case "step1": return below(4);
            case "taken1": return below(6);
            case "list0": case "put0": case "look0": case "lays0": case "from0": case "judge0": return below(3);
            case "list1": return below(model.n + 3);
            case "put1": case "look1": return below(8);
            case "put2": return below(model.m);
            case "lays1": return below(3);
            case "from1": return below(model.n) + (model.sort == 0 ? -12 : 0);
            case "count0": return below(17);
            default: return below(Math.max(1, model.walks.size()));
        }
    }

    private void both(int run, String name, int... given) {
        String call = "run " + run + ": " + Face.told(name, given);
        check.due(call, FaceTests.call(x, name, given), model.call(name, given));
    }

    /** Every set of lit corners and every end of a ring, m 2: all that a walk is asked. */
    private void allOfRing(int n) {
        x = new LampsAlongStreets();
        model = new Model();
        both(n, "street", 1, n, 2);
        both(n, "list", 0, n);
        for (int set = 0; set < 1 << n; set++) {
            for (int c = 0; c < n; c++) {
                both(n, "put", 0, c, set >> c & 1);
            }
            for (int end = 0; end < n; end++) {
                both(n, "from", 0, end);
                for (int what = 0; what <= 7; what++) {
                    both(n, "of", 0, what);
                }
                both(n, "drop");
            }
        }
    }

    /** LENGTH is held against its own words: the first level of all words on which a walk is met. */
    private void shortWords() {
        int[][] streets = {{0, 0, 2}, {0, 0, 3}, {0, 0, 5}, {1, 3, 2}, {1, 3, 4}, {1, 5, 3}, {1, 8, 5}};
        for (int[] given : streets) {
            x = new LampsAlongStreets();
            model = new Model();
            both(0, "street", given);
            List<String> level = new ArrayList<>(List.of(""));
            java.util.Set<String> met = new java.util.HashSet<>(List.of(Model.BARE.key()));
            for (int k = 1; k <= 6; k++) {
                List<String> next = new ArrayList<>();
                for (String word : level) {
                    for (char letter : "aAtT".toCharArray()) {
                        if (met.add(model.afterAll(Model.BARE, word + letter).key())) {
                            next.add(word + letter);
                            Told.word(x, word + letter);
                            check.due("LENGTH of " + word + letter, x.of(0, 2), k);
                            x.drop();
                        }
                    }
                }
                level = next;
                if (k <= 5) {
                    check.due("SPHERE " + k, x.sphere(k), level.size());
                }
            }
        }
    }
}
