import java.math.BigInteger;

/** LOTS, ODDS, THE IMAGE, REFUSALS, and how long an object is used: each sentence that names a boundary. */
final class ImageEdges {
    private static final int LEAST_INT = Integer.MIN_VALUE;
    private static final int MOST_INT = Integer.MAX_VALUE;
    private static final BigInteger INTS = BigInteger.ONE.shiftLeft(32);
    private static final BigInteger FACTOR = BigInteger.valueOf(1664525);
    private static final BigInteger MORE = BigInteger.valueOf(1013904223);

    private ImageEdges() {
    }

    static void run(Check check) {
        drawsThatComeRound(check);
        drawsOfManySeeds(check);
        seedGoesOn(check);
        oddsInLeastTerms(check);
        oddsOfAllAndNone(check);
        noImage(check);
        imageOfNone(check);
        imageOfAll(check);
        imageIsNotChanged(check);
        lettersAndListsStay(check);
        refusalsStay(check);
        countNumbers(check);
        refusedFar(check);
        notCounted(check);
        lastCalls(check);
        allCallsRefused(check);
    }

    /** The next seed, as an int; reckoned without an int's coming round. */
    private static int nextSeed(int z) {
        return BigInteger.valueOf(z).multiply(FACTOR).add(MORE).mod(INTS).intValue();
    }

    /** The seed behind which that one comes. */
    private static int seedAhead(int next) {
        return BigInteger.valueOf(next).subtract(MORE).multiply(FACTOR.modInverse(INTS)).mod(INTS).intValue();
    }

    private static char drawn(int z) {
        BigInteger withoutSign = BigInteger.valueOf(z).mod(INTS).clearBit(31);
        return "aAtT".charAt(withoutSign.divide(BigInteger.valueOf(256)).mod(BigInteger.valueOf(4)).intValue());
    }

    private static String drawnWord(int z, int k) {
        StringBuilder word = new StringBuilder();
        int seed = z;
        for (int i = 0; i < k; i++) {
            seed = nextSeed(seed);
            word.append(drawn(seed));
        }
        return word.toString();
    }

    /** LOTS against the same words told in letters. */
    private static void sameAsTold(Check check, int sort, int n, int m, int z) {
        LampsAlongStreets x = new LampsAlongStreets();
        x.street(sort, n, m);
        for (int k = 1; k <= 12; k++) {
            String word = drawnWord(z, k);
            int walk = Told.word(x, word);
            String call = "LOTS with seed " + z + ": " + word + ", SORT " + sort + ", " + n + " CORNERS, m " + m;
            check.due(call, x.lots(1, k, z, 0), x.of(walk, 2));
            check.due(call + ", DEAD", x.lots(1, k, z, 1), x.of(walk, 5));
            x.drop();
        }
    }

    private static void drawsThatComeRound(Check check) {
        check.due("a DRAW: behind seed 0", nextSeed(0), 1013904223);
        check.holds("a DRAW: its letter", drawn(1013904223) == 'T');
        int[] next = {0, 255, 256, 511, 512, 1023, 1024, -1, -256, -257, LEAST_INT, LEAST_INT + 255, LEAST_INT + 256,
            MOST_INT, MOST_INT - 255, MOST_INT - 256};
        for (int second : next) {
            // The first letter is to be drawn by that number, and then the second one.
            sameAsTold(check, 0, 0, 5, seedAhead(second));
            sameAsTold(check, 0, 0, 5, seedAhead(seedAhead(second)));
        }
        check.holds("z without its sign's bit, not -z", drawn(-257) == 't' && drawn(-1) == 'T' && drawn(LEAST_INT) == 'a');
    }

    private static void drawsOfManySeeds(Check check) {
        for (int z : new int[] {LEAST_INT, LEAST_INT + 1, -1, 0, 1, MOST_INT - 1, MOST_INT}) {
            sameAsTold(check, 0, 0, 2, z);
        }
        for (int z = -40; z < 40; z++) {
            sameAsTold(check, 1, 3, 2, z * 53687091);
            sameAsTold(check, 1, 8, 4, z);
        }
    }

    private static void seedGoesOn(Check check) {
        for (int n = 2; n <= 30; n += 7) {
            for (int k = 1; k <= 12; k++) {
                for (int what = 0; what <= 1; what++) {
                    LampsAlongStreets x = Told.ring(3, 2);
                    int z = 12345 * k;
                    int together = 0;
                    int seed = z;
                    for (int time = 0; time < n; time++) {
                        together += x.lots(1, k, seed, what);
                        for (int i = 0; i < k; i++) {
                            seed = nextSeed(seed);
                        }
                    }
                    check.due("LOTS, " + n + " times " + k + " LETTERS, one seed", x.lots(n, k, z, what), together);
                }
            }
        }
    }

    private static void oddsInLeastTerms(Check check) {
        for (int n = 3; n <= 8; n++) {
            LampsAlongStreets x = Told.ring(n, 2, "aA");
            for (int lit = 0; lit <= n; lit++) {
                long above = x.odds(0, 0);
                long below = x.odds(0, 1);
                String call = "ODDS of " + lit + " LAMPS on a RING of " + n;
                check.due(call, above * n, below * lit);
                check.due(call + " in least terms", BigInteger.valueOf(above).gcd(BigInteger.valueOf(below)).longValue(), 1);
                x.step(0, 0);
                x.step(0, 2);
            }
        }
    }

    private static void oddsOfAllAndNone(Check check) {
        LampsAlongStreets x = Told.line(5);
        x.list(0, 25);
        x.from(0, 12);
        check.due("0 as 0 by 1: above", x.odds(0, 0), 0);
        check.due("0 as 0 by 1: below", x.odds(0, 1), 1);
        int[][] due = {{1, 1, 25}, {5, 1, 5}, {10, 2, 5}, {15, 3, 5}, {20, 4, 5}, {24, 24, 25}, {25, 1, 1}};
        for (int[] of : due) {
            for (int i = 0; i < of[0]; i++) {
                x.put(0, i, 4);
            }
            int walk = x.from(0, 0);
            check.due("ODDS on a LINE, above, of " + of[0], x.odds(walk, 0), of[1]);
            check.due("ODDS on a LINE, below, of " + of[0], x.odds(walk, 1), of[2]);
            x.drop();
        }
    }

    private static void noImage(Check check) {
        new Edge(check, "31: -3 there is no IMAGE", LampsAlongStreets::new).refuses(-3, "on").answers(0, "image");
        new Edge(check, "31: -3 there is no IMAGE, with walks", () -> Told.ring(5, 3, "a", "t")).refuses(-3, "on")
            .answers(2, "image").answers(2, "count", 3);
    }

    private static void imageOfNone(Check check) {
        LampsAlongStreets x = new LampsAlongStreets();
        check.due("30: an IMAGE of no WALKS", x.image(), 0);
        for (int i = 0; i < 6; i++) {
            Told.word(x, "a");
        }
        for (int i = 0; i < 4; i++) {
            x.helper(i, i);
        }
        check.due("31: ON from it", x.on(), 0);
        check.due("31: no WALKS", x.count(3), 0);
        check.due("31: no HELPERS", x.count(4), 0);
        check.due("31: no WALK", x.lamp(0, 0), -1);
        check.due("31: no HELPER", x.taken(0, 0), -1);
        check.due("31: there is room for a WALK", Told.word(x, "t"), 0);
        check.due("31: and for a HELPER", x.helper(5, 9), 0);
    }

    /** Six WALKS, four HELPERS. */
    private static LampsAlongStreets full(int sort) {
        String[] words = {"a", "ta2", "Ta", "t2A", "aA", "T2"};
        LampsAlongStreets x = sort == 0 ? Told.line(5, words) : Told.ring(8, 5, words);
        for (int i = 0; i < 4; i++) {
            x.helper(i + 2, 9 - i);
        }
        return x;
    }

    private static void imageOfAll(Check check) {
        for (int sort = 0; sort <= 1; sort++) {
            LampsAlongStreets x = full(sort);
            check.due("30: how many WALKS: six", x.image(), 6);
            x.street(1 - sort, 3, 2);
            check.due("31: how many WALKS", x.on(), 6);
            check.holds("31: these are as then", Portrait.part(Face.of(x), 0).equals(Portrait.part(Face.of(full(sort)), 0)));
            check.due("31: six there are", Told.word(x, "a"), -6);
            check.due("31: four there are", x.helper(0, 0), -6);
        }
    }

    private static void imageIsNotChanged(Check check) {
        LampsAlongStreets x = full(0);
        x.image();
        String then = Portrait.part(Face.of(x), 0);
        for (int round = 0; round < 2; round++) {
            x.step(0, 0);
            x.done(0, 1);
            x.drop();
            x.times(2, 3);
            check.due("31: ON from it, time " + round, x.on(), 6);
            check.holds("31: as then, time " + round, Portrait.part(Face.of(x), 0).equals(then));
        }
        x.drop();
        check.due("30: a later IMAGE takes the first one's place", x.image(), 5);
        x.drop();
        check.due("31: ON from the later", x.on(), 5);
    }

    private static void lettersAndListsStay(Check check) {
        LampsAlongStreets x = full(1);
        x.drop();
        Told.tell(x, "at");
        x.list(0, 2);
        x.put(0, 1, 5);
        check.due("30: the IMAGE", x.image(), 5);
        Told.tell(x, "a");
        x.list(0, 1);
        x.put(0, 0, 6);
        x.list(2, 40);
        x.on();
        check.due("letters stay", x.count(5), 3);
        check.due("LISTS stay: how many places", x.put(0, 1, 0), -13);
        check.due("LISTS stay: what is in them", x.look(0, 0), 6);
        check.due("LISTS stay, one made since", x.look(2, 39), 0);
        check.due("LISTS stay missing", x.look(1, 0), Told.FAR_LONG + 11);
        check.due("the letters' WALK", x.lamp(x.word(), 1), 1);
    }

    private static void refusalsStay(Check check) {
        LampsAlongStreets x = full(1);
        x.letter(-1);
        x.image();
        x.letter(256);
        x.lamp(9, 9);
        x.on();
        check.holds("ON leaves how many REFUSALS there were", Told.refusals(x).equals("1 0 0 1 0 1"));
        x.street(0, 0, 2);
        check.holds("street() too", Told.refusals(x).equals("1 0 0 1 0 1"));
        x.on();
        check.holds("and ON once more", Told.refusals(x).equals("1 0 0 1 0 1"));
    }

    private static void countNumbers(Check check) {
        Edge edge = new Edge(check, "32: count", () -> {
            LampsAlongStreets x = Told.crowded(Told.ring(8, 5, "a", "t", "T", "aA", "at", "A"));
            x.letter(-1);
            x.letter(-1);
            x.lamp(6, 0);
            x.street(7, 7, 7);
            x.letter(256);
            x.written(0, 0);
            x.step(0, 4);
            x.word();
            return x;
        });
        int[] due = {1, 8, 5, 6, 2, 2};
        for (int what = 0; what < due.length; what++) {
            edge.onlyTells(due[what], "count", what);
        }
        int[] refusals = {1, 2, 1, 2, 0, 2};
        for (int i = 0; i < refusals.length; i++) {
            edge.onlyTells(refusals[i], "count", 11 + i);
        }
        for (int what : new int[] {LEAST_INT, -11, -6, -1, 6, 7, 9, 10, 17, 18, 100, MOST_INT}) {
            edge.onlyTells(-9, "count", what);
        }
    }

    private static void refusedFar(Check check) {
        LampsAlongStreets x = Told.line(2, "a");
        x.helper(0, 0);
        x.list(0, 1);
        check.due("-1 as 1000000001: of", x.of(1, 0), 1000000001);
        check.due("-2 as 1000000002: of", x.of(0, 8), 1000000002);
        check.due("-1 as 1000000001: helps", x.helps(1, 0), 1000000001);
        check.due("-2 as 1000000002: helps", x.helps(0, 4), 1000000002);
        check.due("-1 as 4000000000000000001: odds", x.odds(1, 0), 4000000000000000001L);
        check.due("-2 as 4000000000000000002: odds", x.odds(0, 2), 4000000000000000002L);
        check.due("-1 as 4000000000000000001: look", x.look(3, 0), 4000000000000000001L);
        check.due("-11 likewise: look", x.look(1, 0), 4000000000000000011L);
        check.due("-13 likewise: look", x.look(0, 1), 4000000000000000013L);
        check.holds("they are counted as -1 and -2", Told.refusals(x).equals("4 3 0 0 0 0"));
    }

    private static void notCounted(Check check) {
        LampsAlongStreets x = Told.line(2, "t", "a");
        x.helper(0, 0);
        x.list(0, 1);
        check.due("not counted: -9 of SUMS", x.sums(0, 1), -9);
        check.due("not counted: -9 of WRITTEN", x.written(0, 1), -9);
        check.due("not counted: -9 of ORDER", x.of(0, 7), -9);
        check.due("not counted: -9 of JUDGED", x.judge(0, 0), -9);
        check.due("not counted: -9 of count", x.count(6), -9);
        check.due("not counted: -11", x.put(1, 0, 0), -11);
        check.due("not counted: -13", x.put(0, 1, 0), -13);
        check.due("not counted: -13, lays", x.lays(0, 0, 0), -13);
        check.due("not counted: -14", x.list(0, -1), -14);
        check.due("not counted: -16", x.taken(0, 1), -16);
        check.due("not counted: FAULT in telling", Told.word(x, "b"), -1000);
        check.due("not counted: FAULT in doing", Told.word(x, "t9t9"), -2002);
        check.holds("there were no REFUSALS", Told.refusals(x).equals("0 0 0 0 0 0"));
    }

    private static void lastCalls(Check check) {
        LampsAlongStreets x = new LampsAlongStreets();
        for (int call = 1; call <= 511; call++) {
            check.due("refused, call " + call, x.drop(), -3);
        }
        check.due("the 512th call: how many REFUSALS there were", x.count(13), 511);
        LampsAlongStreets y = Told.line(2, "a");
        for (int call = 4; call <= 512; call++) {
            check.due("a step, call " + call, y.step(0, call % 2 == 0 ? 0 : 1), call % 2 == 0 ? 0 : 1);
        }
    }

    /** One object for each refusal that a call can answer: each is counted, and the WALKS go on. */
    private static void allCallsRefused(Check check) {
        LampsAlongStreets x = new LampsAlongStreets();
        int[] counted = new int[6];
        String[] names = FaceTests.names().toArray(new String[0]);
        for (String name : names) {
            for (int number : new int[] {LEAST_INT, -1, 1000, MOST_INT}) {
                int[] given = new int[FaceTests.places(name)];
                java.util.Arrays.fill(given, number);
                long answer = FaceTests.call(x, name, given);
                long far = answer > Told.FAR_LONG ? Told.FAR_LONG - answer : answer > Told.FAR ? Told.FAR - answer : answer;
                if (far <= -1 && far >= -6) {
                    counted[(int) (-1 - far)]++;
                }
            }
        }
        for (int i = 0; i < 6; i++) {
            check.due("REFUSALS -" + (i + 1) + " of all calls with far numbers", x.count(11 + i), counted[i]);
        }
    }
}
