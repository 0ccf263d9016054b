/** Of the promises 1 to 18 each number that is least or greatest, and each refusal: alone and beside others. */
final class CallEdges {
    private static final int LEAST_INT = Integer.MIN_VALUE;
    private static final int MOST_INT = Integer.MAX_VALUE;
    /** No WALK's, HELPER's or LIST's numbers, whatever there is. */
    static final int[] NOBODY = {-1, -2, 6, 7, LEAST_INT, MOST_INT};

    private CallEdges() {
    }

    static void run(Check check) {
        newObject(check);
        letterNumbers(check);
        lettersMost(check);
        wordOfSix(check);
        wordIsNoMore(check);
        faultsInTelling(check);
        faultsInDoing(check);
        faultsOfTheLongest(check);
        streetSorts(check);
        streetNumbers(check);
        streetOrder(check);
        streetTakesAway(check);
        dropNone(check);
        ofNobody(check);
        lampNobody(check);
        timesRefused(check);
        inverseRefused(check);
        powerRefused(check);
        conjugateRefused(check);
        pairsRefused(check);
        sumsRefused(check);
        sphereRefused(check);
        writtenRefused(check);
        writtenOnARing(check);
        oddsRefused(check);
        lotsRefused(check);
        lotsOrder(check);
        nothingIsLeft(check);
    }

    /** Three walks on a line; nobody has number 3. */
    private static LampsAlongStreets three() {
        return Told.crowded(Told.line(3, "ta", "T2a", "a"));
    }

    private static LampsAlongStreets six() {
        return Told.crowded(Told.line(3, "ta", "T2a", "a", Told.lit(12, -12), "t", "A"));
    }

    private static void newObject(Check check) {
        Edge edge = new Edge(check, "1: a new object", LampsAlongStreets::new);
        edge.answers(0, "count", 0).answers(25, "count", 1).answers(2, "count", 2);
        edge.answers(0, "count", 3).answers(0, "count", 4).answers(0, "count", 5);
        for (int what = 11; what <= 16; what++) {
            edge.answers(0, "count", what);
        }
        edge.refuses(-1, "lamp", 0, 0).refusesFar(-1, "of", 0, 0).refusesFar(-1, "helps", 0, 0).refuses(-3, "drop");
        edge.refuses(-3, "on").onlyTells(-11, "put", 0, 0, 0).onlyTells(Told.FAR_LONG + 11, "look", 2, 0);
        edge.answers(1, "letter", 'a').answers(0, "helper", 0, 0).answers(0, "image");
    }

    private static void letterNumbers(Check check) {
        Edge edge = new Edge(check, "2: a letter (0 .. 255)", CallEdges::three);
        for (int c : new int[] {0, 1, 127, 128, 254, 255}) {
            edge.answers(3, "letter", c);
        }
        edge.refuses(-4, "letter", -1).refuses(-4, "letter", LEAST_INT);
        edge.refuses(-6, "letter", 256).refuses(-6, "letter", 257).refuses(-6, "letter", MOST_INT);
    }

    private static void lettersMost(Check check) {
        new Edge(check, "2: -6 72, 71 there are", () -> told(71)).answers(72, "letter", 'a').answers(72, "letter", 0);
        Edge full = new Edge(check, "2: -6 72, 72 there are", () -> told(72));
        full.refuses(-6, "letter", 'a').refuses(-6, "letter", 0).refuses(-6, "letter", 255);
        full.refuses(-6, "letter", 256).refuses(-4, "letter", -1).refuses(-4, "letter", LEAST_INT);
        full.answers(72, "count", 5).answers(0, "word");
    }

    private static LampsAlongStreets told(int letters) {
        LampsAlongStreets x = Told.line(5);
        Told.tell(x, ("ta" + "aA".repeat(35)).substring(0, letters));
        return x;
    }

    private static void wordOfSix(Check check) {
        String sentence = "3: -6 six there are (ahead of all; the letters stay)";
        for (String letters : new String[] {"", "b", "1", "t9t9", "t9t9z", "at"}) {
            new Edge(check, sentence + ": " + letters, () -> {
                LampsAlongStreets x = Told.line(2, "a", "t", "T", "aA", "at", "ta");
                Told.tell(x, letters);
                return x;
            }).refuses(-6, "word").answers(letters.length(), "count", 5);
        }
        new Edge(check, sentence + ": five", () -> {
            LampsAlongStreets x = Told.line(2, "a", "t", "T", "aA", "at");
            Told.tell(x, "at");
            return x;
        }).answers(5, "word");
    }

    private static void wordIsNoMore(Check check) {
        for (String letters : new String[] {"at", "b", "t9t9", "a0", "T9T9a", ""}) {
            for (int part = 0; part < Portrait.PARTS; part++) {
                LampsAlongStreets x = Told.line(2, "ta");
                LampsAlongStreets none = Told.line(2, "ta");
                boolean isWord = Told.word(x, letters) == 1;
                if (isWord) {
                    x.drop();
                }
                String sentence = "3: the letters are no more, with a FAULT neither: " + letters;
                check.due(sentence, x.count(5), 0);
                check.holds(sentence, Portrait.part(Face.of(x), part).equals(Portrait.part(Face.of(none), part)));
            }
        }
        new Edge(check, "3: the FAULT isn't counted", () -> Told.line(2, "t")).answers(-1000, "word");
    }

    private static void fault(Check check, int due, String letters) {
        LampsAlongStreets x = Told.line(2, "a");
        check.due("3: FAULT of '" + letters + "'", Told.word(x, letters), due);
        check.holds("3: FAULT of '" + letters + "' isn't counted", Told.refusals(x).equals("0 0 0 0 0 0"));
        check.due("3: no WALK comes with FAULT of '" + letters + "'", x.count(3), due < 0 ? 1 : 2);
    }

    private static void faultsInTelling(Check check) {
        fault(check, -1000, "");
        for (String letters : new String[] {"1", "9", "0", "b", "B", "s", "u", "S", "U", "@", "`", " ", "\0",
            "\u00ff"}) {
            fault(check, -1000, letters);
            fault(check, -1001, "a" + (letters.matches("[1-9]") ? "bc" : letters));
        }
        for (String digit : new String[] {"1", "9"}) {
            fault(check, 1, "a" + digit);
            fault(check, -1002, "a" + digit + digit);
            fault(check, -1002, "a" + digit + "0");
            fault(check, -1000, digit + "a");
        }
        fault(check, -1001, "a/");
        fault(check, -1001, "a0");
        fault(check, -1001, "a:");
        fault(check, -1003, "aa1?1");
    }

    private static void faultsInDoing(Check check) {
        fault(check, 1, "t9t3");
        fault(check, -2002, "t9t4");
        fault(check, -2002, "t9t9");
        fault(check, 1, "T9T3");
        fault(check, -2002, "T9T4a");
        fault(check, 1, "t9t3T9T9T6");
        fault(check, -2008, "t9t3T9T9T7");
        fault(check, -2004, "t9t3t");
        fault(check, -2004, "t9t3t1");
        fault(check, -2012, "tttttttttttttttt");
        // What can't be told comes ahead of what can't be done, wherever it stands.
        fault(check, -1005, "t9t3tz");
        fault(check, -1004, "t9t40");
    }

    private static void faultsOfTheLongest(Check check) {
        String most = "t9t3" + "a".repeat(66);
        fault(check, 1, most + "aa");
        fault(check, 1, most + "a2");
        fault(check, -2071, most + "at");
        fault(check, -2070, most + "t1");
        fault(check, -1071, most + "az");
        fault(check, -1070, most + "00");
    }

    private static void streetSorts(Check check) {
        Edge edge = new Edge(check, "4: THE STREET is of a SORT; -2", CallEdges::three);
        edge.answers(25, "street", 0, 5, 2).answers(5, "street", 1, 5, 2);
        for (int sort : new int[] {-1, 2, 3, LEAST_INT, MOST_INT}) {
            edge.refuses(-2, "street", sort, 5, 2);
        }
    }

    private static void streetNumbers(Check check) {
        Edge edge = new Edge(check, "4: -4 (n 3; m 2); -6 (n 8; m 5)", CallEdges::three);
        for (int n = 3; n <= 8; n++) {
            edge.answers(n, "street", 1, n, 2).answers(n, "street", 1, n, 5);
        }
        for (int m = 2; m <= 5; m++) {
            edge.answers(25, "street", 0, 0, m).answers(3, "street", 1, 3, m).answers(8, "street", 1, 8, m);
        }
        for (int below : new int[] {2, 1, 0, -1, LEAST_INT}) {
            edge.refuses(-4, "street", 1, below, 2);
        }
        for (int above : new int[] {9, 10, 25, MOST_INT}) {
            edge.refuses(-6, "street", 1, above, 2);
        }
        for (int sort = 0; sort <= 1; sort++) {
            edge.refuses(-4, "street", sort, 4, 1).refuses(-4, "street", sort, 4, 0).refuses(-4, "street", sort, 4, -1);
            edge.refuses(-4, "street", sort, 4, LEAST_INT);
            edge.refuses(-6, "street", sort, 4, 6).refuses(-6, "street", sort, 4, 7).refuses(-6, "street", sort, 4, MOST_INT);
        }
        for (int n : new int[] {LEAST_INT, -1, 0, 2, 3, 8, 9, 25, MOST_INT}) {
            edge.answers(25, "street", 0, n, 2);
        }
    }

    private static void streetOrder(Check check) {
        Edge edge = new Edge(check, "4: the first that fits in the order told", CallEdges::three);
        edge.refuses(-2, "street", 2, 2, 1).refuses(-2, "street", 2, 9, 6).refuses(-2, "street", -1, 2, 6);
        edge.refuses(-4, "street", 1, 2, 6).refuses(-4, "street", 1, 9, 1).refuses(-4, "street", 1, 2, 1);
        edge.refuses(-6, "street", 1, 9, 6);
        edge.refuses(-4, "street", 0, 9, 1).refuses(-6, "street", 0, 2, 6);
    }

    private static void streetTakesAway(Check check) {
        for (int sort = 0; sort <= 1; sort++) {
            LampsAlongStreets x = six();
            x.letter(-1);
            check.due("street() takes all away", x.street(sort, 4, 3), sort == 0 ? 25 : 4);
            check.due("street() takes all WALKS away", x.count(3), 0);
            check.due("street() takes all HELPERS away", x.count(4), 0);
            check.due("no WALK is left", x.lamp(0, 0), -1);
            check.due("no HELPER is left", x.taken(0, 0), -1);
            check.due("street() leaves the letters", x.count(5), 2);
            check.due("street() leaves the LISTS", x.look(0, 1), 7);
            check.holds("street() leaves how many REFUSALS there were", Told.refusals(x).equals("2 0 0 1 0 0"));
            check.due("the first WALK has number 0 again", x.word(), 0);
            check.due("the first HELPER, too", x.helper(0, 0), 0);
            check.due("the IMAGE is of the other street", x.on(), 6);
        }
    }

    private static void dropNone(Check check) {
        LampsAlongStreets x = six();
        for (int left = 5; left >= 0; left--) {
            check.due("5: how many there are", x.drop(), left);
            check.due("5: the last went", x.lamp(left, 0), -1);
            check.due("5: those ahead are there", x.count(3), left);
        }
        check.due("5: -3 there is none", x.drop(), -3);
        new Edge(check, "5: -3 there is none", () -> Told.crowded(Told.line(3))).refuses(-3, "drop");
        new Edge(check, "5: the last one", () -> Told.crowded(Told.line(3, "a"))).answers(0, "drop");
        new Edge(check, "5: six", CallEdges::six).answers(5, "drop");
    }

    private static void ofNobody(Check check) {
        Edge edge = new Edge(check, "6: refused far", CallEdges::three);
        edge.answers(1, "of", 2, 1).answers(1, "of", 0, 0).answers(-2, "of", 1, 0).answers(3, "of", 2, 7);
        edge.refusesFar(-1, "of", 3, 0).refusesFar(-1, "of", 3, 7);
        for (int walk : NOBODY) {
            edge.refusesFar(-1, "of", walk, 0).refusesFar(-1, "of", walk, 8).refusesFar(-1, "of", walk, -1);
        }
        for (int what : new int[] {-1, 8, 9, LEAST_INT, MOST_INT}) {
            edge.refusesFar(-2, "of", 0, what).refusesFar(-2, "of", 2, what).refusesFar(-1, "of", 3, what);
        }
    }

    private static void lampNobody(Check check) {
        Edge edge = new Edge(check, "7: -1 either", CallEdges::three);
        edge.answers(1, "lamp", 0, 1).answers(1, "lamp", 2, 0).answers(0, "lamp", 2, -12).answers(0, "lamp", 2, 12);
        edge.refuses(-1, "lamp", 3, 0).refuses(-1, "lamp", 2, 13).refuses(-1, "lamp", 3, 13);
        for (int walk : NOBODY) {
            edge.refuses(-1, "lamp", walk, 0).refuses(-1, "lamp", walk, -13);
        }
    }

    private static void timesRefused(Check check) {
        Edge edge = new Edge(check, "8: -1 either", CallEdges::three);
        edge.answers(3, "times", 0, 2).answers(3, "times", 2, 0).answers(3, "times", 2, 2);
        edge.refuses(-1, "times", 0, 3).refuses(-1, "times", 3, 0).refuses(-1, "times", 3, 3);
        Edge full = new Edge(check, "8: -6 six there are, it can't be", CallEdges::six);
        full.refuses(-6, "times", 0, 1).refuses(-6, "times", 3, 3);
        for (int walk : NOBODY) {
            edge.refuses(-1, "times", walk, 0).refuses(-1, "times", 0, walk).refuses(-1, "times", walk, walk);
            full.refuses(-1, "times", walk, 0).refuses(-1, "times", 3, walk);
        }
    }

    private static void inverseRefused(Check check) {
        Edge edge = new Edge(check, "9: -1", CallEdges::three);
        edge.answers(3, "inverse", 0).answers(3, "inverse", 2).refuses(-1, "inverse", 3);
        Edge full = new Edge(check, "9: -6 six there are, it can't be", CallEdges::six);
        full.refuses(-6, "inverse", 0).refuses(-6, "inverse", 3).refuses(-6, "inverse", 5);
        for (int walk : NOBODY) {
            edge.refuses(-1, "inverse", walk);
            full.refuses(-1, "inverse", walk);
        }
    }

    private static void powerRefused(Check check) {
        Edge edge = new Edge(check, "10: -1; -4; -6 (6)", CallEdges::three);
        edge.answers(3, "power", 0, 0).answers(3, "power", 2, 6).refuses(-1, "power", 3, 0);
        edge.refuses(-4, "power", 0, -1).refuses(-4, "power", 0, LEAST_INT);
        edge.refuses(-6, "power", 0, 7).refuses(-6, "power", 0, MOST_INT).refuses(-1, "power", 3, 7);
        Edge full = new Edge(check, "10: -6 six there are, it can't be", CallEdges::six);
        full.refuses(-6, "power", 0, 0).refuses(-6, "power", 3, 2).refuses(-6, "power", 3, 7);
        full.refuses(-4, "power", 0, -1).refuses(-4, "power", 3, LEAST_INT);
        for (int walk : NOBODY) {
            edge.refuses(-1, "power", walk, 0).refuses(-1, "power", walk, -1).refuses(-1, "power", walk, 7);
            full.refuses(-1, "power", walk, 0).refuses(-1, "power", walk, -1).refuses(-1, "power", walk, 7);
        }
    }

    private static void conjugateRefused(Check check) {
        Edge edge = new Edge(check, "11: -1 either", CallEdges::three);
        edge.answers(3, "conjugate", 0, 2).answers(3, "conjugate", 2, 0).answers(3, "conjugate", 1, 1);
        edge.refuses(-1, "conjugate", 0, 3).refuses(-1, "conjugate", 3, 0).refuses(-1, "conjugate", 3, 3);
        Edge full = new Edge(check, "11: -6 six there are, it can't be", CallEdges::six);
        full.refuses(-6, "conjugate", 0, 2).refuses(-6, "conjugate", 0, 3).refuses(-6, "conjugate", 3, 3);
        for (int walk : NOBODY) {
            edge.refuses(-1, "conjugate", walk, 0).refuses(-1, "conjugate", 0, walk).refuses(-1, "conjugate", walk, walk);
            full.refuses(-1, "conjugate", walk, 3).refuses(-1, "conjugate", 3, walk);
        }
    }

    private static void pairsRefused(Check check) {
        for (String name : new String[] {"distance", "like"}) {
            Edge edge = new Edge(check, name.equals("like") ? "13: -1 either" : "12: -1 either", CallEdges::three);
            edge.answers(name.equals("like") ? 1 : 0, name, 2, 2).answers(name.equals("like") ? 0 : 5, name, 0, 1);
            edge.refuses(-1, name, 0, 3).refuses(-1, name, 3, 0).refuses(-1, name, 3, 3);
            for (int walk : NOBODY) {
                edge.refuses(-1, name, walk, 0).refuses(-1, name, 2, walk).refuses(-1, name, walk, walk);
            }
        }
    }

    private static void sumsRefused(Check check) {
        Edge edge = new Edge(check, "14: -9 there are not so many; -1; -4 below -1", CallEdges::three);
        edge.answers(2, "sums", 1, -1).answers(1, "sums", 1, 0).answers(0, "sums", 1, 1);
        edge.onlyTells(-9, "sums", 1, 2).onlyTells(-9, "sums", 1, 3).onlyTells(-9, "sums", 1, MOST_INT);
        edge.answers(0, "sums", 2, -1).onlyTells(-9, "sums", 2, 0).onlyTells(-9, "sums", 2, MOST_INT);
        edge.refuses(-4, "sums", 1, -2).refuses(-4, "sums", 2, -2).refuses(-4, "sums", 1, LEAST_INT);
        edge.refuses(-1, "sums", 3, 0);
        for (int walk : NOBODY) {
            edge.refuses(-1, "sums", walk, 0).refuses(-1, "sums", walk, -1).refuses(-1, "sums", walk, -2);
        }
    }

    private static void sphereRefused(Check check) {
        Edge edge = new Edge(check, "15: -4; -6 5", CallEdges::three);
        edge.answers(1, "sphere", 0).answers(4, "sphere", 1);
        edge.refuses(-4, "sphere", -1).refuses(-4, "sphere", LEAST_INT);
        edge.refuses(-6, "sphere", 6).refuses(-6, "sphere", 7).refuses(-6, "sphere", MOST_INT);
        for (int k = 0; k <= 5; k++) {
            int answer = six().sphere(k);
            edge.onlyTells(answer, "sphere", k);
        }
    }

    private static void writtenRefused(Check check) {
        Edge edge = new Edge(check, "16: -9 there are not so many; -1; -4 below -1", CallEdges::three);
        edge.answers(3, "written", 1, -1).answers('T', "written", 1, 0).answers('a', "written", 1, 2);
        edge.onlyTells(-9, "written", 1, 3).onlyTells(-9, "written", 1, 4).onlyTells(-9, "written", 1, MOST_INT);
        edge.refuses(-4, "written", 1, -2).refuses(-4, "written", 1, LEAST_INT).refuses(-1, "written", 3, 0);
        for (int walk : NOBODY) {
            edge.refuses(-1, "written", walk, 0).refuses(-1, "written", walk, -1).refuses(-1, "written", walk, -2);
        }
        new Edge(check, "16: of BARE there is none", () -> Told.line(2, "aA"))
            .answers(0, "written", 0, -1).onlyTells(-9, "written", 0, 0);
    }

    private static void writtenOnARing(Check check) {
        Edge edge = new Edge(check, "16: -3 THE STREET is a RING", () -> Told.crowded(Told.ring(5, 3, "ta", "aA")));
        edge.refuses(-3, "written", 0, -1).refuses(-3, "written", 0, 0).refuses(-3, "written", 0, MOST_INT);
        edge.refuses(-3, "written", 1, 0).refuses(-4, "written", 0, -2).refuses(-4, "written", 1, LEAST_INT);
        edge.refuses(-1, "written", 2, 0).refuses(-1, "written", 2, -2).refuses(-1, "written", -1, -2);
    }

    private static void oddsRefused(Check check) {
        Edge edge = new Edge(check, "17: refused far", CallEdges::three);
        edge.answers(1, "odds", 0, 0).answers(25, "odds", 0, 1).refusesFar(-1, "odds", 3, 0);
        for (int part : new int[] {-1, 2, 3, LEAST_INT, MOST_INT}) {
            edge.refusesFar(-2, "odds", 2, part).refusesFar(-1, "odds", 3, part);
        }
        for (int walk : NOBODY) {
            edge.refusesFar(-1, "odds", walk, 0).refusesFar(-1, "odds", walk, 2);
        }
    }

    private static void lotsRefused(Check check) {
        Edge edge = new Edge(check, "18: -4 (n, k 1); -6 (30; 12); -2", CallEdges::three);
        edge.answers(1, "lots", 1, 1, 0, 0).answers(0, "lots", 1, 1, 0, 1).answers(30, "lots", 30, 1, 0, 0);
        for (int[] inside : new int[][] {{1, 12}, {2, 11}, {29, 2}, {30, 12}}) {
            for (int what = 0; what <= 1; what++) {
                int answer = Told.line(3).lots(inside[0], inside[1], 77, what);
                edge.onlyTells(answer, "lots", inside[0], inside[1], 77, what);
            }
        }
        for (int below : new int[] {0, -1, LEAST_INT}) {
            edge.refuses(-4, "lots", below, 1, 0, 0).refuses(-4, "lots", 1, below, 0, 0);
        }
        for (int above : new int[] {31, 32, MOST_INT}) {
            edge.refuses(-6, "lots", above, 1, 0, 0);
        }
        for (int above : new int[] {13, 14, 30, MOST_INT}) {
            edge.refuses(-6, "lots", 1, above, 0, 0);
        }
        for (int what : new int[] {-1, 2, 3, LEAST_INT, MOST_INT}) {
            edge.refuses(-2, "lots", 1, 1, 0, what).refuses(-2, "lots", 30, 12, 0, what);
        }
    }

    private static void lotsOrder(Check check) {
        Edge edge = new Edge(check, "18: the first that fits in the order told", CallEdges::three);
        edge.refuses(-4, "lots", 0, 13, 0, 0).refuses(-4, "lots", 31, 0, 0, 0).refuses(-4, "lots", 0, 0, 0, 2);
        edge.refuses(-4, "lots", 31, 0, 0, 2).refuses(-4, "lots", 0, 13, 0, 2);
        edge.refuses(-6, "lots", 31, 1, 0, 2).refuses(-6, "lots", 1, 13, 0, 2).refuses(-6, "lots", 31, 13, 0, 2);
    }

    /** WALKS 0, 1, 2; LIST 0 tells of a WALK, LIST 1 of none that can be; HELPER 0 can go beyond. */
    private static LampsAlongStreets beforeAll() {
        LampsAlongStreets x = Told.line(3, "ta", "T2a", Told.lit(12, -12, 0));
        x.list(0, 13);
        x.put(0, 12, 2);
        x.list(1, 25);
        x.put(1, 0, 1);
        x.put(1, 24, 3);
        x.helper(3, 1);
        return x;
    }

    private static Object[] call(String name, int... given) {
        return new Object[] {name, given};
    }

    /** What went, was refused or was only asked leaves nothing behind for the next WALK, or the next question. */
    private static void nothingIsLeft(Check check) {
        Object[][] before = {call("times", 0, 1), call("power", 0, 6), call("times", 2, 2), call("inverse", 2),
            call("power", 2, 2), call("conjugate", 1, 2), call("conjugate", 2, 0), call("word"), call("from", 0, 7),
            call("from", 1, 7), call("done", 0, 2), call("lots", 2, 9, 3, 0), call("distance", 0, 2), call("sphere", 4),
            call("of", 2, 6), call("like", 0, 2), call("written", 2, 3)};
        Object[][] then = {call("word"), call("times", 1, 0), call("inverse", 0), call("power", 0, 0), call("power", 0, 2),
            call("conjugate", 0, 1), call("from", 0, -3), call("done", 0, 0), call("lots", 3, 5, 8, 0),
            call("distance", 0, 1), call("sphere", 3), call("written", 1, -1), call("helps", 0, 2)};
        for (Object[] first : before) {
            for (Object[] second : then) {
                LampsAlongStreets x = beforeAll();
                LampsAlongStreets fresh = beforeAll();
                if (first[0].equals("word")) {
                    check.due("3: a FAULT on the way", Told.word(x, "taTTat9t9"), -2007);
                } else {
                    FaceTests.call(x, (String) first[0], (int[]) first[1]);
                }
                while (x.count(3) > 3) {
                    x.drop();
                }
                Told.tell(x, "ta");
                Told.tell(fresh, "ta");
                String name = (String) second[0];
                int[] given = (int[]) second[1];
                String told = "nothing is left of " + Face.told((String) first[0], (int[]) first[1])
                    + ": " + Face.told(name, given);
                check.due(told, FaceTests.call(x, name, given), FaceTests.call(fresh, name, given));
                check.holds(told, Portrait.part(Face.of(x), 0).equals(Portrait.part(Face.of(fresh), 0)));
            }
        }
    }
}
