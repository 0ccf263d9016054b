/** Each sentence of Terms 1 that names a boundary. */
final class StreetEdges {
    private static final int LEAST_INT = Integer.MIN_VALUE;
    private static final int MOST_INT = Integer.MAX_VALUE;

    private StreetEdges() {
    }

    static void run(Check check) {
        cornersOfALine(check);
        cornersOfARing(check);
        ringComesRound(check);
        lampComesRound(check);
        atFirst(check);
        bare(check);
        lastCornersOfALine(check);
        aRingHasNoLastCorner(check);
        sixWalks(check);
        timesRound(check);
        timesShowsBoth(check);
        timesEndBeyond(check);
        timesLampBeyond(check);
        timesDarkLampBeyond(check);
        inverseRound(check);
        inverseBeyond(check);
        powersOfAll(check);
        powerBeyond(check);
        conjugateBeyond(check);
        conjugateRound(check);
        orders(check);
        ordersOfARing(check);
    }

    private static void cornersOfALine(Check check) {
        Edge edge = new Edge(check, "LINE: CORNERS -12 .. 12", () -> Told.crowded(Told.line(3, Told.lit(0, -12, 12))));
        edge.answers(25, "count", 1);
        edge.answers(1, "lamp", 0, -12).answers(0, "lamp", 0, -11).answers(0, "lamp", 0, 11).answers(1, "lamp", 0, 12);
        for (int c : new int[] {-13, 13, -25, 25, -1000, 1000, LEAST_INT, MOST_INT}) {
            edge.refuses(-1, "lamp", 0, c);
        }
    }

    private static void cornersOfARing(Check check) {
        for (int n = 3; n <= 8; n++) {
            int size = n;
            Edge edge = new Edge(check, "RING of " + n + " CORNERS, 0 .. n less 1",
                () -> Told.crowded(Told.ring(size, 2, Told.lit(0, -1))));
            edge.answers(n, "count", 1).answers(0, "lamp", 0, 0).answers(1, "lamp", 0, n - 1);
            for (int c : new int[] {-1, n, -n, n + 1, -12, 12, LEAST_INT, MOST_INT}) {
                edge.refuses(-1, "lamp", 0, c);
            }
        }
    }

    private static void ringComesRound(Check check) {
        for (int n = 3; n <= 8; n++) {
            LampsAlongStreets x = Told.ring(n, 2, "aA");
            for (int i = 1; i <= 2 * n; i++) {
                x.step(0, 2);
                check.due("behind the last CORNER of " + n + " comes 0 again: t" + i, x.of(0, 0), i % n);
            }
            for (int i = 2 * n - 1; i >= 0; i--) {
                x.step(0, 3);
                check.due("T: downward, a RING's round, " + n + " CORNERS, left " + i, x.of(0, 0), i % n);
            }
        }
    }

    private static void lampComesRound(Check check) {
        for (int m = 2; m <= 5; m++) {
            for (int sort = 0; sort <= 1; sort++) {
                LampsAlongStreets x = sort == 0 ? Told.line(m, "aA") : Told.ring(3, m, "aA");
                for (int i = 1; i <= 2 * m; i++) {
                    x.step(0, 0);
                    check.due("a LAMP shows 0 .. m less 1, then 0 again: m " + m + ", a" + i, x.lamp(0, 0), i % m);
                }
                for (int i = 2 * m - 1; i >= 0; i--) {
                    x.step(0, 1);
                    check.due("A: it shows 1 less, m " + m + ", left " + i, x.lamp(0, 0), i % m);
                }
            }
        }
    }

    private static void atFirst(Check check) {
        LampsAlongStreets x = new LampsAlongStreets();
        check.due("at first: LINE", x.count(0), 0);
        check.due("at first: m 2", x.count(2), 2);
        Told.word(x, "a");
        check.due("at first m 2: a, then a", x.step(0, 0), 0);
    }

    private static void bare(Check check) {
        for (String word : new String[] {"aA", "Aa", "tT", "Tt", "a2", "t9T9", "taATatTA"}) {
            LampsAlongStreets x = Told.line(2, word);
            check.due("BARE: END is 0, of " + word, x.of(0, 0), 0);
            check.due("BARE: all LAMPS show 0, of " + word, x.of(0, 1), 0);
            check.due("BARE: the shortest WORD has none, of " + word, x.of(0, 2), 0);
        }
    }

    private static void lastCornersOfALine(Check check) {
        String sentence = "beyond a LINE's last CORNER it can't be done";
        Edge up = new Edge(check, sentence, () -> Told.crowded(Told.line(3, Told.go(12))));
        up.refuses(-6, "step", 0, 2).answers(11, "step", 0, 3).answers(13, "step", 0, 0).answers(13, "step", 0, 1);
        Edge nearlyUp = new Edge(check, sentence, () -> Told.crowded(Told.line(3, Told.go(11))));
        nearlyUp.answers(12, "step", 0, 2).answers(10, "step", 0, 3);
        Edge down = new Edge(check, sentence, () -> Told.crowded(Told.line(3, Told.go(-12))));
        down.refuses(-6, "step", 0, 3).answers(11, "step", 0, 2).answers(13, "step", 0, 0).answers(13, "step", 0, 1);
        Edge nearlyDown = new Edge(check, sentence, () -> Told.crowded(Told.line(3, Told.go(-11))));
        nearlyDown.answers(12, "step", 0, 3).answers(10, "step", 0, 2);
        LampsAlongStreets x = Told.line(3, Told.go(12), Told.go(-12));
        check.due(sentence + ": the last CORNER upward", x.of(0, 0), 12);
        check.due(sentence + ": the last CORNER downward", x.of(1, 0), -12);
    }

    private static void aRingHasNoLastCorner(Check check) {
        for (int n = 3; n <= 8; n++) {
            LampsAlongStreets x = Told.ring(n, 2);
            check.due("on a RING 72 t can be done, of " + n, Told.word(x, Told.go(72)), 0);
            check.due("and 72 T, of " + n, Told.word(x, Told.go(-72)), 1);
            check.due("END behind 72 t, of " + n, x.of(0, 0), 72 % n);
            check.due("END behind 72 T, of " + n, x.of(1, 0), (n - 72 % n) % n);
        }
    }

    /** Every call by which a WALK comes tells its number, 0 .. 5, and is refused when there are six. */
    private static void sixWalks(Check check) {
        for (int there = 1; there <= 6; there++) {
            int many = there;
            Edge edge = new Edge(check, "WALKS have numbers, 0 .. as they come, 6 at most, " + there + " there are",
                () -> Told.crowded(severalWalks(many)));
            String[] names = {"word", "times", "inverse", "power", "conjugate", "from"};
            int[][] given = {{}, {0, 0}, {0}, {0, 2}, {0, 0}, {0, 0}};
            for (int i = 0; i < names.length; i++) {
                if (there < 6 && !names[i].equals("from")) {
                    edge.answers(there, names[i], given[i]);
                } else if (there == 6) {
                    edge.refuses(-6, names[i], given[i]);
                }
            }
            edge.answers(there, "count", 3).answers(there - 1, "of", there - 1, 0);
            edge.refusesFar(-1, "of", there, 0).refusesFar(-1, "of", -1, 0);
        }
    }

    /** WALK number i ends at CORNER i. */
    private static LampsAlongStreets severalWalks(int many) {
        LampsAlongStreets x = Told.line(5);
        for (int i = 0; i < many; i++) {
            Told.word(x, "aA" + Told.go(i));
        }
        return x;
    }

    private static void timesRound(Check check) {
        for (int n = 3; n <= 8; n++) {
            for (int end = 0; end < n; end++) {
                for (int c = 0; c < n; c++) {
                    LampsAlongStreets x = Told.ring(n, 3, Told.lit(end), Told.lit(c, c));
                    String call = "TIMES for all CORNERS, a RING's round: " + n + ", END " + end + ", LAMP and END " + c;
                    check.due(call, x.times(0, 1), 2);
                    check.due(call, x.lamp(2, (c + end) % n), 1);
                    check.due(call, x.of(2, 1), 1);
                    check.due(call, x.of(2, 0), (c + end) % n);
                }
            }
        }
    }

    private static void timesShowsBoth(Check check) {
        for (int m = 2; m <= 5; m++) {
            for (int g = 0; g < m; g++) {
                for (int h = 0; h < m; h++) {
                    LampsAlongStreets x = Told.line(m, "ta" + "a".repeat(g) + "A", "aA" + "a".repeat(h));
                    x.times(0, 1);
                    check.due("TIMES, to what shows " + g + " comes " + h + ", m " + m, x.lamp(2, 1), (g + h) % m);
                }
            }
        }
    }

    private static void timesEndBeyond(Check check) {
        int[][] inside = {{12, 0}, {0, 12}, {11, 1}, {-12, 0}, {0, -12}, {-11, -1}, {12, -12}, {-12, 12}, {6, 6}};
        int[][] beyond = {{12, 1}, {1, 12}, {7, 6}, {-12, -1}, {-1, -12}, {-7, -6}, {12, 12}, {-12, -12}};
        for (int[] ends : inside) {
            LampsAlongStreets x = Told.line(2, Told.lit(ends[0]), Told.lit(ends[1]));
            check.due("TIMES, ENDS " + ends[0] + " and " + ends[1], x.times(0, 1), 2);
            check.due("TIMES, END of both together", x.of(2, 0), ends[0] + ends[1]);
        }
        for (int[] ends : beyond) {
            new Edge(check, "TIMES can't be, if END comes beyond: " + ends[0] + " and " + ends[1],
                () -> Told.crowded(Told.line(2, Told.lit(ends[0], 0), Told.lit(ends[1], 0)))).refuses(-6, "times", 0, 1);
        }
    }

    private static void timesLampBeyond(Check check) {
        // END of the first, CORNER of the second's LAMP; its END is 0.
        int[][] inside = {{12, 0}, {11, 1}, {0, 12}, {-12, 0}, {-11, -1}, {0, -12}, {12, -12}, {-12, 12}, {12, -1}};
        int[][] beyond = {{12, 1}, {11, 2}, {1, 12}, {-12, -1}, {-11, -2}, {-1, -12}, {12, 12}, {-12, -12}};
        for (int[] of : inside) {
            LampsAlongStreets x = Told.line(2, Told.lit(of[0], -12, 12), Told.lit(0, of[1]));
            String call = "TIMES, END " + of[0] + " and a LAMP at " + of[1];
            int c = of[0] + of[1];
            check.due(call, x.times(0, 1), 2);
            check.due(call + ": turned", x.lamp(2, c), c == 12 || c == -12 ? 0 : 1);
        }
        for (int[] of : beyond) {
            String call = "TIMES can't be, if a LAMP of h comes beyond: END " + of[0] + " and a LAMP at " + of[1];
            new Edge(check, call, () -> Told.crowded(Told.line(2, Told.lit(of[0]), Told.lit(0, of[1]))))
                .refuses(-6, "times", 0, 1);
            new Edge(check, call + " beside one that comes inside",
                () -> Told.crowded(Told.line(2, Told.lit(of[0], 0), Told.lit(0, 0, of[1])))).refuses(-6, "times", 0, 1);
        }
    }

    private static void timesDarkLampBeyond(Check check) {
        String sentence = "TIMES: only a LAMP of h that shows more than 0 can come beyond";
        new Edge(check, sentence, () -> Told.line(2, Told.lit(12), "taAT")).answers(2, "times", 0, 1);
        new Edge(check, sentence, () -> Told.line(3, Told.lit(12), "ta3T")).answers(2, "times", 0, 1);
        new Edge(check, sentence, () -> Told.line(3, Told.lit(12), "ta2T")).refuses(-6, "times", 0, 1);
        new Edge(check, sentence, () -> Told.line(2, Told.lit(-12), "TaAt")).answers(2, "times", 0, 1);
        new Edge(check, sentence + "; those of g stay where they are",
            () -> Told.line(2, Told.lit(12, -12, 12), Told.lit(0, 0))).answers(2, "times", 0, 1);
    }

    private static void inverseRound(Check check) {
        for (int n = 3; n <= 8; n++) {
            for (int end = 0; end < n; end++) {
                for (int c = 0; c < n; c++) {
                    LampsAlongStreets x = Told.ring(n, 5, Told.lit(end, c));
                    String call = "INVERSE on a RING of " + n + ", END " + end + ", LAMP " + c;
                    check.due(call, x.inverse(0), 1);
                    check.due(call + ": END", x.of(1, 0), (n - end) % n);
                    check.due(call + ": LAMP", x.lamp(1, (n + c - end) % n), 4);
                    check.due(call + ": no other", x.of(1, 1), 1);
                    x.times(0, 1);
                    check.due(call + ": g TIMES it is BARE", x.of(2, 2), 0);
                }
            }
        }
    }

    private static void inverseBeyond(Check check) {
        // END, CORNER of a LAMP; it comes to the one less the other.
        int[][] inside = {{0, 12}, {0, -12}, {12, 0}, {12, 12}, {-12, 0}, {-12, -12}, {1, -11}, {-1, 11}, {6, -6}};
        int[][] beyond = {{12, -1}, {12, -12}, {1, -12}, {7, -6}, {-12, 1}, {-12, 12}, {-1, 12}, {-7, 6}};
        for (int[] of : inside) {
            LampsAlongStreets x = Told.line(5, Told.lit(of[0], of[1]));
            String call = "INVERSE, END " + of[0] + ", LAMP at " + of[1];
            check.due(call, x.inverse(0), 1);
            check.due(call + ": END", x.of(1, 0), -of[0]);
            check.due(call + ": LAMP", x.lamp(1, of[1] - of[0]), 4);
        }
        for (int[] of : beyond) {
            String call = "INVERSE can't be, if one of its LAMPS would be beyond: END " + of[0] + ", LAMP at " + of[1];
            new Edge(check, call, () -> Told.crowded(Told.line(5, Told.lit(of[0], of[1])))).refuses(-6, "inverse", 0);
            new Edge(check, call + " and one inside", () -> Told.crowded(Told.line(5, Told.lit(of[0], of[0], of[1]))))
                .refuses(-6, "inverse", 0);
        }
        new Edge(check, "INVERSE: only LAMPS that show more than 0", () -> Told.line(2, "TaA" + Told.go(13)))
            .answers(1, "inverse", 0);
    }

    private static void powersOfAll(Check check) {
        LampsAlongStreets x = Told.line(2, "at");
        for (int k = 0; k <= 6; k++) {
            check.due("POWER k (0 .. 6): " + k, x.power(0, k), 1);
            check.due("POWER " + k + ": END", x.of(1, 0), k);
            check.due("POWER " + k + ": LAMPS", x.of(1, 1), k);
            check.due("POWER " + k + ": none behind the last", x.lamp(1, k), 0);
            x.drop();
        }
        for (int n = 3; n <= 8; n++) {
            LampsAlongStreets r = Told.ring(n, 5, "at");
            for (int k = 0; k <= 6; k++) {
                check.due("POWER " + k + " on a RING of " + n, r.power(0, k), 1);
                check.due("POWER " + k + " on a RING of " + n + ": END comes round", r.of(1, 0), k % n);
                check.due("POWER " + k + " on a RING of " + n + ": LAMP 0", r.lamp(1, 0), (k + n - 1) / n);
                r.drop();
            }
        }
    }

    private static void powerBeyond(Check check) {
        String sentence = "POWER can't be, or one on the way";
        Edge nothing = new Edge(check, sentence, () -> Told.crowded(Told.line(2, Told.lit(12, 0))));
        nothing.answers(1, "power", 0, 0).answers(1, "power", 0, 1);
        for (int k = 2; k <= 6; k++) {
            nothing.refuses(-6, "power", 0, k);
        }
        new Edge(check, sentence + ", END 2", () -> Told.line(2, "t2")).answers(1, "power", 0, 6);
        new Edge(check, sentence + ", END -2", () -> Told.line(2, "T2")).answers(1, "power", 0, 6);
        for (String word : new String[] {"t3", "T3"}) {
            new Edge(check, sentence + ", " + word, () -> Told.crowded(Told.line(2, word)))
                .answers(1, "power", 0, 4).refuses(-6, "power", 0, 5).refuses(-6, "power", 0, 6);
        }
        for (int side = -1; side <= 1; side += 2) {
            String word = Told.lit(side, 11 * side);
            new Edge(check, sentence + ", a LAMP: " + word, () -> Told.crowded(Told.line(2, word)))
                .answers(1, "power", 0, 2).refuses(-6, "power", 0, 3).refuses(-6, "power", 0, 6);
        }
        new Edge(check, sentence + ", END 0 and LAMPS at the last CORNERS", () -> Told.line(2, Told.lit(0, -12, 12)))
            .answers(1, "power", 0, 6);
    }

    private static void conjugateBeyond(Check check) {
        String sentence = "CONJUGATE can't be, or one on the way";
        // What is conjugated, by what: first INVERSE can't be, then that TIMES g, then all.
        String[][] inverse = {{"aA", Told.lit(12, -1)}, {"aA", Told.lit(-12, 1)}, {"aA", Told.lit(1, -12)}};
        String[][] first = {{"T", Told.go(12)}, {"T9", Told.go(9)}, {Told.lit(0, -1), Told.go(12)},
            {"t", Told.go(-12)}, {Told.lit(0, 1), Told.go(-12)}, {Told.lit(0, -12), "t"}};
        String[][] last = {{"t", Told.lit(0, 12)}, {"T", Told.lit(0, -12)}, {Told.lit(12), Told.lit(0, 1)},
            {Told.lit(-12), Told.lit(0, -1)}};
        String[][] inside = {{"T", Told.go(11)}, {"t", Told.go(12)}, {Told.lit(0, 0), Told.go(12)},
            {Told.lit(0, -1), Told.go(11)}, {"t", Told.lit(0, 11)}, {Told.lit(12), Told.lit(0, 0)}, {"aA", Told.lit(1, -11)}};
        for (String[][] group : new String[][][] {inverse, first, last}) {
            for (String[] words : group) {
                new Edge(check, sentence + ": " + words[0] + " by " + words[1],
                    () -> Told.crowded(Told.line(2, words))).refuses(-6, "conjugate", 0, 1);
            }
        }
        for (String[] words : inside) {
            new Edge(check, "CONJUGATE: " + words[0] + " by " + words[1], () -> Told.line(2, words))
                .answers(2, "conjugate", 0, 1);
        }
    }

    private static void conjugateRound(Check check) {
        for (int n = 3; n <= 8; n++) {
            for (int end = 0; end < n; end++) {
                LampsAlongStreets x = Told.ring(n, 3, Told.lit(1, 0), Told.lit(end));
                check.due("CONJUGATE on a RING of " + n + " by END " + end, x.conjugate(0, 1), 2);
                check.due("its LAMP came downward, round", x.lamp(2, (n - end) % n), 1);
                check.due("its END stays", x.of(2, 0), 1);
            }
        }
    }

    private static void orders(Check check) {
        for (int end : new int[] {-12, -11, -1, 1, 11, 12}) {
            check.due("ORDER on a LINE, END " + end + ": there is none", Told.line(2, Told.go(end)).of(0, 7), -9);
        }
        for (int m = 2; m <= 5; m++) {
            check.due("ORDER of BARE: from 1 on, m " + m, Told.line(m, "aA").of(0, 7), 1);
            for (int c : new int[] {-12, 0, 12}) {
                check.due("ORDER of one LAMP at " + c + ", m " + m, Told.line(m, Told.lit(0, c)).of(0, 7), m);
            }
        }
        check.due("ORDER, the last LAMPS, 1 and 2 of 4", Told.line(4, Told.lit(0, -12, 12, 12)).of(0, 7), 4);
        check.due("ORDER, 2 of 4", Told.line(4, Told.lit(0, -12, -12, 12, 12)).of(0, 7), 2);
    }

    private static void ordersOfARing(Check check) {
        for (int n = 3; n <= 8; n++) {
            check.due("ORDER of BARE on a RING of " + n, Told.ring(n, 2, "aA").of(0, 7), 1);
            check.due("ORDER of t on a RING of " + n, Told.ring(n, 2, "t").of(0, 7), n);
            check.due("ORDER of T on a RING of " + n, Told.ring(n, 2, "T").of(0, 7), n);
            for (int m = 2; m <= 5; m++) {
                check.due("ORDER of at, RING of " + n + ", m " + m, Told.ring(n, m, "at").of(0, 7), n * m);
                check.due("ORDER of a, RING of " + n + ", m " + m, Told.ring(n, m, "a").of(0, 7), m);
            }
        }
        check.due("ORDER of t2 on a RING of 8", Told.ring(8, 2, "t2").of(0, 7), 4);
        check.due("ORDER of t4 on a RING of 8", Told.ring(8, 2, "t4").of(0, 7), 2);
        check.due("ORDER of t6 on a RING of 8", Told.ring(8, 2, "t6").of(0, 7), 4);
        check.due("ORDER of ataT2 on a RING of 3, whose SUM is 0", Told.ring(3, 2, "ataT2").of(0, 7), 3);
    }
}
