/** What the document's words make of a term, held against the class: by its other calls alone, without a model. */
final class TermsTests {
    /** SORT, CORNERS, m. */
    private static final int[][] STREETS = {{0, 25, 2}, {0, 25, 3}, {0, 25, 5}, {1, 3, 2}, {1, 4, 4}, {1, 6, 3}, {1, 8, 5}};

    private final Check check;
    private final int[] street;
    private long seed = 7;

    private TermsTests(Check check, int[] street) {
        this.check = check;
        this.street = street;
    }

    static void run(Check check) {
        for (int[] street : STREETS) {
            TermsTests tests = new TermsTests(check, street);
            for (int round = 0; round < 60; round++) {
                Shown g = tests.drawn(1 + round % 12);
                Shown h = tests.drawn(1 + round / 5);
                tests.power(g);
                tests.conjugate(g, h);
                tests.inverse(g);
                tests.order(g);
                tests.length(g);
                tests.dead(g);
                tests.sums(g);
                tests.like(g, h);
                tests.lists(g, h);
                if (street[0] == 0) {
                    tests.written(g);
                }
            }
            tests.depths();
        }
        spheres(check);
    }

    private int below(int bound) {
        seed = seed * 6364136223846793005L + 1442695040888963407L;
        return (int) Long.remainderUnsigned(seed >>> 20, bound);
    }

    private int least() {
        return street[0] == 0 ? -12 : 0;
    }

    /** LAMPS and END no farther from 0 than that. */
    private Shown drawn(int reach) {
        int[] lamps = new int[street[1]];
        for (int place = 0; place < lamps.length; place++) {
            boolean isNear = Math.abs(least() + place) <= reach;
            lamps[place] = isNear && below(3) > 0 ? below(street[2]) : 0;
        }
        int end = street[0] == 0 ? below(2 * reach + 1) - reach : below(street[1]);
        return new Shown(lamps, below(3) == 0 ? 0 : end);
    }

    /** Null where TIMES is refused, or there is nothing to begin with. */
    private Shown times(Shown g, Shown h) {
        if (g == null || h == null) {
            return null;
        }
        LampsAlongStreets x = Shown.on(street, g, h);
        int answer = x.times(0, 1);
        check.holds("TIMES answers 2 or -6", answer == 2 || answer == -6);
        return answer < 0 ? null : Shown.of(x, answer);
    }

    private Shown inverted(Shown g) {
        LampsAlongStreets x = Shown.on(street, g);
        int answer = x.inverse(0);
        return answer < 0 ? null : Shown.of(x, answer);
    }

    private void made(String call, LampsAlongStreets x, int answer, int number, Shown due) {
        check.due(call, answer, due == null ? -6 : number);
        check.due(call + ": REFUSALS -6", x.count(16), due == null ? 1 : 0);
        if (due != null && answer == number) {
            check.holds(call + " is " + due.told(), Shown.of(x, number).same(due));
        }
    }

    /** "BARE, k times TIMES g"; "it can't be, or one on the way". */
    private void power(Shown g) {
        Shown due = Shown.bare(street[1]);
        for (int k = 0; k <= 6; k++) {
            LampsAlongStreets x = Shown.on(street, g);
            made("POWER " + k + " of " + g.told(), x, x.power(0, k), 1, due);
            due = times(due, g);
        }
    }

    /** "(INVERSE of h) TIMES g, that TIMES h"; "it can't be, or one on the way". */
    private void conjugate(Shown g, Shown h) {
        Shown due = times(times(inverted(h), g), h);
        LampsAlongStreets x = Shown.on(street, g, h);
        made("CONJUGATE of " + g.told() + " by " + h.told(), x, x.conjugate(0, 1), 2, due);
    }

    /** "h with g TIMES h BARE"; refused just where one of its LAMPS that shows more than 0 would be beyond. */
    private void inverse(Shown g) {
        Shown h = inverted(g);
        boolean isBeyond = false;
        for (int place = 0; place < g.lamps.length; place++) {
            isBeyond |= street[0] == 0 && g.lamps[place] > 0 && Math.abs(place - 12 - g.end) > 12;
        }
        check.holds("INVERSE can be, or one would be beyond: " + g.told(), (h == null) == isBeyond);
        if (h != null) {
            check.holds("g TIMES INVERSE of g is BARE: " + g.told(), times(g, h).isBare());
        }
    }

    /** "the least k from 1 on for which POWER k is BARE"; where END isn't 0 on a LINE it goes away for ever. */
    private void order(Shown g) {
        int due = 1;
        for (Shown power = g; power != null && !power.isBare(); power = times(power, g)) {
            due++;
        }
        boolean isNone = street[0] == 0 && g.end != 0;
        check.due("ORDER of " + g.told(), Shown.on(street, g).of(0, 7), isNone ? -9 : due);
    }

    private void length(Shown g) {
        LampsAlongStreets x = Shown.on(street, g);
        check.due("LENGTH is TURNS and TOUR together: " + g.told(), x.of(0, 2), x.of(0, 3) + x.of(0, 4));
    }

    /** "1, if by no LETTER done behind it it becomes longer (what can't be done doesn't count); else 0". */
    private void dead(Shown g) {
        check.due("DEAD: " + g.told(), Shown.on(street, g).of(0, 5), growsBy(g, 1) ? 0 : 1);
    }

    /** "the fewest LETTERS (1 .. 4), done behind it, all of which can be done, by which it becomes longer; -9". */
    private void depths() {
        for (int round = 0; round < 12; round++) {
            // What is nearly all lit, near by, is seldom made longer by the first LETTER.
            Shown g = drawn(3);
            for (int place = 0; place < g.lamps.length; place++) {
                boolean isNear = Math.abs(least() + place) <= 1 + round % 2 || street[0] == 1;
                g.lamps[place] = isNear && below(6) > 0 ? street[2] / 2 : g.lamps[place];
            }
            int due = -9;
            for (int letters = 4; letters >= 1; letters--) {
                due = growsBy(g, letters) ? letters : due;
            }
            check.due("DEPTH of " + g.told(), Shown.on(street, g).of(0, 6), due);
        }
    }

    /** Whether some so many LETTERS, all of which can be done, make it longer. */
    private boolean growsBy(Shown g, int letters) {
        int was = Shown.on(street, g).of(0, 2);
        for (int word = 0; word < 1 << 2 * letters; word++) {
            LampsAlongStreets x = Shown.on(street, g);
            int length = 0;
            for (int i = 0; i < letters && length >= 0; i++) {
                length = x.step(0, word >> 2 * i & 3);
            }
            if (length > was) {
                return true;
            }
        }
        return false;
    }

    /** "what all LAMPS at CORNERS c with c modulo that many (0 or more) j show, together, modulo m". */
    private void sums(Shown g) {
        LampsAlongStreets x = Shown.on(street, g);
        int many = x.sums(0, -1);
        if (street[0] == 0) {
            check.due("SUMS, how many: END without its sign, " + g.told(), many, Math.abs(g.end));
        } else {
            check.holds("SUMS, how many: a divisor of END and n, " + g.told(), g.end % many == 0 && street[1] % many == 0);
            for (int more = many + 1; more <= street[1]; more++) {
                check.holds("SUMS: the greatest, " + g.told(), g.end % more != 0 || street[1] % more != 0);
            }
        }
        for (int j = 0; j < many; j++) {
            int due = 0;
            for (int place = 0; place < g.lamps.length; place++) {
                due += (least() + place + 12 * many) % many == j ? g.lamps[place] : 0;
            }
            check.due("SUM " + j + " of " + g.told(), x.sums(0, j), due % street[2]);
        }
        check.due("SUMS: not so many, " + g.told(), x.sums(0, many), -9);
    }

    /** LIKE with one that is made so, with one nearly so, and with any. */
    private void like(Shown g, Shown h) {
        int[] moved = new int[g.lamps.length];
        int[] nearly = g.lamps.clone();
        int by = below(street[1]);
        for (int place = 0; place < moved.length; place++) {
            moved[(place + by) % moved.length] = g.lamps[place];
        }
        nearly[below(nearly.length)] = below(street[2]);
        for (int[] lamps : new int[][] {moved, nearly, h.lamps}) {
            liked(g, new Shown(lamps, g.end));
        }
        liked(g, h);
        liked(h, g);
    }

    private void liked(Shown g, Shown h) {
        LampsAlongStreets x = Shown.on(street, g, h);
        boolean due = g.end == h.end && (street[0] == 0 && g.end == 0 ? movesTo(g, h) : sumsMoveTo(x));
        check.due("LIKE " + g.told() + " and " + h.told(), x.like(0, 1), due ? 1 : 0);
    }

    /** "LAMPS of the one, moved by some number of CORNERS, are those of the other". */
    private static boolean movesTo(Shown g, Shown h) {
        int many = g.lamps.length;
        for (int by = -many; by <= many; by++) {
            boolean isSo = true;
            for (int place = -2 * many; place < 3 * many; place++) {
                isSo &= at(g.lamps, place - by) == at(h.lamps, place);
            }
            if (isSo) {
                return true;
            }
        }
        return false;
    }

    private static int at(int[] lamps, int place) {
        return place >= 0 && place < lamps.length ? lamps[place] : 0;
    }

    /** "SUMS of the one, moved round by some number, are those of the other". */
    private static boolean sumsMoveTo(LampsAlongStreets x) {
        int many = x.sums(0, -1);
        for (int by = 0; by < many; by++) {
            boolean isSo = true;
            for (int j = 0; j < many; j++) {
                isSo &= x.sums(0, j) == x.sums(1, (j + by) % many);
            }
            if (isSo) {
                return true;
            }
        }
        return false;
    }

    /** What is laid into a LIST is judged right, and made again from it; one lamp otherwise is found. */
    private void lists(Shown g, Shown h) {
        LampsAlongStreets x = Shown.on(street, g, h);
        x.list(0, street[1]);
        check.due("lays: how many", x.lays(0, 0, 0), street[1]);
        check.due("JUDGED right", x.judge(0, 0), -9);
        check.due("FROM A LIST", x.from(0, g.end), 2);
        check.holds("FROM A LIST it is the same: " + g.told(), Shown.of(x, 2).same(g));
        int otherwise = 0;
        while (otherwise < g.lamps.length && g.lamps[otherwise] == h.lamps[otherwise]) {
            otherwise++;
        }
        check.due("JUDGED: the first place otherwise, " + g.told() + " and " + h.told(), x.judge(0, 1),
            otherwise < g.lamps.length ? otherwise : -9);
    }

    /** What is WRITTEN, told in letters, makes the WALK again; and it has LENGTH LETTERS. */
    private void written(Shown g) {
        LampsAlongStreets x = Shown.on(street, g);
        String word = Told.written(x, 0);
        check.due("WRITTEN is a shortest WORD: " + g.told(), word.length(), x.of(0, 2));
        if (word.length() > 0 && word.length() <= 72) {
            check.due("WRITTEN is a WORD: " + word, Told.word(x, word), 1);
            check.holds("WRITTEN makes " + g.told(), Shown.of(x, 1).same(g));
        }
    }

    /** "how many WALKS have LENGTH k", counted one by one. */
    private static void spheres(Check check) {
        int[][] streets = {{1, 3, 2}, {1, 3, 5}, {1, 4, 3}, {1, 5, 2}, {1, 5, 3}, {1, 6, 2}, {1, 7, 2}, {1, 8, 2}};
        for (int[] street : streets) {
            int[] many = counted(street, 0, street[1] - 1);
            for (int k = 0; k <= 5; k++) {
                check.due("SPHERE " + k + " of a RING of " + street[1] + ", m " + street[2],
                    Shown.on(street).sphere(k), many[k]);
            }
        }
        for (int m = 2; m <= 3; m++) {
            int[] street = {0, 25, m};
            // No WALK of LENGTH 3 or less has anything farther away.
            int[] many = counted(street, -3, 3);
            for (int k = 0; k <= 3; k++) {
                check.due("SPHERE " + k + " of a LINE, m " + m, Shown.on(street).sphere(k), many[k]);
            }
        }
    }

    /** How many have each LENGTH, of all WALKS with LAMPS and END from one CORNER to another. */
    private static int[] counted(int[] street, int from, int to) {
        int[] many = new int[200];
        int sets = 1;
        for (int c = from; c <= to; c++) {
            sets *= street[2];
        }
        for (int set = 0; set < sets; set++) {
            int[] lamps = new int[street[1]];
            for (int c = from, rest = set; c <= to; c++, rest /= street[2]) {
                lamps[c - (street[0] == 0 ? -12 : 0)] = rest % street[2];
            }
            for (int end = from; end <= to; end++) {
                many[Shown.on(street, new Shown(lamps, end)).of(0, 2)]++;
            }
        }
        return many;
    }
}
