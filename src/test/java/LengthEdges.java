/** Each sentence of Terms 2 that names a boundary. */
final class LengthEdges {
    private LengthEdges() {
    }

    static void run(Check check) {
        turns(check);
        toursOfALine(check);
        toursOfARing(check);
        lengthOfAll(check);
        deadAtTheLastCorners(check);
        dead(check);
        depths(check);
        distancesBeyond(check);
        distancesAsTold(check);
        distancesRound(check);
        sumsOfALine(check);
        sumsModulo(check);
        sumsOfARing(check);
        likeEnds(check);
        likeMoved(check);
        likeSums(check);
        likeOnARing(check);
        spheres(check);
        writtenTurns(check);
        writtenWays(check);
    }

    private static void turns(Check check) {
        for (int m = 2; m <= 5; m++) {
            LampsAlongStreets x = Told.line(m, "aA");
            for (int shows = 0; shows < m; shows++) {
                check.due("TURNS: what it shows, or m less that, whichever is less: " + shows + ", m " + m,
                    x.of(0, 3), shows <= m / 2 ? shows : m - shows);
                x.step(0, 0);
            }
        }
        LampsAlongStreets full = allLit(0, 0, 5, 3, 0);
        check.due("TURNS of all LAMPS together", full.of(0, 3), 50);
        check.due("TURNS of none", Told.line(5, "t").of(0, 3), 0);
    }

    /** All LAMPS of a street show that. */
    private static LampsAlongStreets allLit(int sort, int n, int m, int shows, int end) {
        LampsAlongStreets x = new LampsAlongStreets();
        x.street(sort, n, m);
        x.list(0, x.count(1));
        for (int i = 0; i < x.count(1); i++) {
            x.put(0, i, shows);
        }
        x.from(0, end);
        return x;
    }

    private static void toursOfALine(Check check) {
        // END, one LAMP's CORNER, another's, TOUR.
        int[][] due = {{0, 0, 0, 0}, {12, 0, 0, 12}, {-12, 0, 0, 12}, {0, 12, 12, 24}, {0, -12, -12, 24},
            {0, -12, 12, 48}, {12, -12, 12, 36}, {-12, -12, 12, 36}, {12, -12, 0, 36}, {-12, 12, 0, 36},
            {1, -1, 0, 3}, {-1, 1, 0, 3}, {1, -1, 1, 3}, {0, -1, 1, 4}, {12, 12, 12, 12}, {5, 3, 4, 5}, {-5, -3, -4, 5}};
        for (int[] of : due) {
            LampsAlongStreets x = Told.line(5, Told.lit(of[0], of[1], of[2]));
            check.due("TOUR to " + of[0] + " over " + of[1] + ", " + of[2], x.of(0, 4), of[3]);
        }
    }

    private static void toursOfARing(Check check) {
        for (int n = 3; n <= 8; n++) {
            for (int end = 0; end < n; end++) {
                int shorter = Math.min(end, n - end);
                check.due("TOUR round, RING of " + n + ", END " + end, Told.ring(n, 2, Told.lit(end)).of(0, 4), shorter);
                LampsAlongStreets back = Told.ring(n, 2, Told.lit(0, end));
                check.due("TOUR round and back, RING of " + n + ", LAMP " + end, back.of(0, 4), 2 * shorter);
                int all = allLit(1, n, 2, 1, end).of(0, 4);
                // All round to 0 again; or a part of it twice, where END lies behind the part left out.
                int due = end == 0 ? n : Math.min(2 * (end - 1) + n - end, 2 * (n - end - 1) + end);
                check.due("TOUR over all CORNERS, RING of " + n + ", END " + end, all, due);
            }
        }
    }

    private static void lengthOfAll(Check check) {
        LampsAlongStreets x = allLit(0, 0, 4, 2, 0);
        check.due("LENGTH on a LINE, all LAMPS, home again", x.of(0, 2), 50 + 48);
        check.due("LENGTH, all LAMPS, END 12", allLit(0, 0, 4, 2, 12).of(0, 2), 50 + 36);
        check.due("LENGTH, all LAMPS, END -12", allLit(0, 0, 5, 4, -12).of(0, 2), 25 + 36);
        check.due("LENGTH of BARE", Told.line(2, "aA").of(0, 2), 0);
        check.due("LENGTH of t12", Told.line(2, Told.go(12)).of(0, 2), 12);
    }

    private static void deadAtTheLastCorners(Check check) {
        for (int side = -12; side <= 12; side += 24) {
            String[] words = {Told.go(side), Told.lit(side, side), Told.lit(side, -side, side), Told.lit(side, -side),
                Told.lit(side, 0, side)};
            for (String word : words) {
                LampsAlongStreets x = Told.crowded(Told.line(2, word));
                check.due("DEAD: what can't be done doesn't count: " + word, x.of(0, 5), 0);
                check.due("DEPTH: letters all of which can be done: " + word, x.of(0, 6), 1);
                check.due("DEAD and DEPTH change nothing: " + word, x.of(0, 0), side);
            }
        }
    }

    private static void dead(Check check) {
        check.due("DEAD: by no LETTER", Told.line(2, Told.lit(0, -1, 0, 1)).of(0, 5), 1);
        check.due("DEAD: not by a, lamp off", Told.line(2, Told.lit(0, -1, 1)).of(0, 5), 0);
        check.due("DEAD: not by t", Told.line(2, Told.lit(0, -1, 0)).of(0, 5), 0);
        check.due("DEAD: not by T", Told.line(2, Told.lit(0, 0, 1)).of(0, 5), 0);
        check.due("DEAD: not by t with END 1", Told.line(2, Told.lit(1, -1, 0, 1)).of(0, 5), 0);
        check.due("DEAD: up to the last CORNERS", Told.line(2, Told.lit(0, -12, 0, 12)).of(0, 5), 1);
        // m 3: 1 and 2 are one turn both, and 0 is none; m 4: 2 is the most; m 5: 2 and 3.
        int[][] most = {{2, 1, 1}, {3, 1, 1}, {3, 2, 1}, {4, 1, 0}, {4, 2, 1}, {4, 3, 0}, {5, 1, 0}, {5, 2, 1}, {5, 3, 1},
            {5, 4, 0}};
        for (int[] of : most) {
            LampsAlongStreets x = Told.line(of[0], "taTTatA" + "a".repeat(of[1] + 1));
            check.due("DEAD: where he stands shows " + of[1] + " of " + of[0], x.of(0, 5), of[2]);
        }
    }

    private static void depths(Check check) {
        check.due("DEPTH, the fewest: 1", Told.line(2, "aA").of(0, 6), 1);
        check.due("DEPTH 2", Told.ring(3, 2, "ataT").of(0, 6), 2);
        check.due("DEPTH 3", Told.line(2, Told.lit(0, -1, 0, 1)).of(0, 6), 3);
        check.due("DEPTH 4, the most", Told.ring(7, 2, "atatatattattt2").of(0, 6), 4);
        check.due("DEPTH 5 is none", Told.line(2, Told.lit(0, -2, -1, 0, 1, 2)).of(0, 6), -9);
        check.due("DEPTH where no WALK is longer", allLit(1, 4, 2, 1, 0).of(0, 6), -9);
    }

    private static void distancesBeyond(Check check) {
        // END of the first, its LAMP, END of the other, its LAMP, DISTANCE.
        int[][] due = {{12, 0, -12, 0, 24}, {12, 12, -12, -12, 26}, {-12, 12, 12, -12, 2 + 24}, {-12, 12, -11, -12, 2 + 24 + 23},
            {12, -12, 12, -12, 0}, {-12, -12, -12, 12, 2 + 48}, {12, 0, 12, -12, 2 + 48}, {0, 0, 12, 12, 2 + 12}};
        for (int[] of : due) {
            LampsAlongStreets x = Told.line(2, Told.lit(of[0], of[1]), Told.lit(of[2], of[3]));
            String call = "DISTANCE, as if a LINE had no last CORNER: END " + of[0] + ", LAMP " + of[1]
                + " and END " + of[2] + ", LAMP " + of[3];
            check.due(call, x.distance(0, 1), of[4]);
            check.due(call + ", the other way", x.distance(1, 0), of[4]);
        }
    }

    /** Where INVERSE and TIMES can be, DISTANCE is LENGTH of what they make. */
    private static void distancesAsTold(Check check) {
        String[] words = {"a", "t2a3T", "T3at5a2T2", "a2tA2t2", "Tat2a4", "tTaA"};
        for (int sort = 0; sort <= 1; sort++) {
            for (String g : words) {
                for (String h : words) {
                    LampsAlongStreets x = sort == 0 ? Told.line(5, g, h) : Told.ring(4, 5, g, h);
                    x.inverse(0);
                    x.times(2, 1);
                    check.due("DISTANCE of " + g + " and " + h, x.distance(0, 1), x.of(3, 2));
                }
            }
        }
    }

    private static void distancesRound(Check check) {
        for (int n = 3; n <= 8; n++) {
            LampsAlongStreets x = Told.ring(n, 5, Told.lit(n - 1), Told.lit(0, 0), Told.lit(1, 0, 0, 0, 0));
            check.due("DISTANCE round a RING of " + n, x.distance(0, 1), 2);
            check.due("DISTANCE: LAMPS 4 and 1, 2 turns by way of 0", x.distance(2, 1), 2 + 1);
            check.due("DISTANCE: 1 and 4 likewise", x.distance(1, 2), 2 + 1);
            check.due("DISTANCE: 0 and 4, by way of 0", x.distance(0, 2), 1 + 2);
        }
    }

    private static void sumsOfALine(Check check) {
        for (int end = -12; end <= 12; end++) {
            int many = Math.abs(end);
            for (int c = -12; c <= 12; c++) {
                LampsAlongStreets x = Told.line(2, Told.lit(end, c));
                String call = "SUMS, END " + end + ", LAMP " + c;
                check.due(call + ": how many", x.sums(0, -1), many);
                check.due(call + ": not so many", x.sums(0, many), -9);
                for (int j = 0; j < many; j++) {
                    boolean is = (c - j) % many == 0;
                    check.due(call + ": SUM " + j, x.sums(0, j), is ? 1 : 0);
                }
            }
        }
    }

    private static void sumsModulo(Check check) {
        for (int m = 2; m <= 5; m++) {
            LampsAlongStreets x = Told.line(m, "aA");
            check.due("SUMS, END 0", x.sums(0, 0), -9);
            x = Told.line(m, "t");
            for (int i = 1; i <= 12; i++) {
                Told.word(x, Told.lit(1, lampsUpTo(i)));
                check.due("SUM of " + i + " LAMPS, together, modulo m " + m, x.sums(1, 0), i % m);
                x.drop();
            }
        }
    }

    private static int[] lampsUpTo(int many) {
        int[] corners = new int[many];
        for (int i = 0; i < many; i++) {
            corners[i] = i - 6;
        }
        return corners;
    }

    private static void sumsOfARing(Check check) {
        // The greatest common divisors of END and n; n, if END is 0.
        int[][] due = {{3, 1, 1}, {4, 1, 2, 1}, {5, 1, 1, 1, 1}, {6, 1, 2, 3, 2, 1}, {7, 1, 1, 1, 1, 1, 1},
            {8, 1, 2, 1, 4, 1, 2, 1}};
        for (int[] row : due) {
            int n = row[0];
            for (int end = 0; end < n; end++) {
                for (int c = 0; c < n; c++) {
                    LampsAlongStreets x = Told.ring(n, 2, Told.lit(end, c));
                    String call = "SUMS on a RING of " + n + ", END " + end + ", LAMP " + c;
                    check.due(call + ": how many", x.sums(0, -1), row[end]);
                    check.due(call + ": not so many", x.sums(0, row[end]), -9);
                    for (int j = 0; j < row[end]; j++) {
                        check.due(call + ": SUM " + j, x.sums(0, j), c % row[end] == j ? 1 : 0);
                    }
                }
            }
        }
    }

    private static void likeEnds(Check check) {
        LampsAlongStreets x = Told.line(2, "aA", "t", "T", Told.go(12), Told.go(-12), "tT");
        for (int g = 0; g < 6; g++) {
            for (int h = 0; h < 6; h++) {
                boolean one = g == h || g + h == 5 && (g == 0 || h == 0);
                check.due("LIKE, if their ENDS are one: " + g + ", " + h, x.like(g, h), one ? 1 : 0);
            }
        }
        LampsAlongStreets r = Told.ring(3, 2, "aA", "t", "T", "t3", "t4", "t2");
        int[] ends = {0, 1, 2, 0, 1, 2};
        for (int g = 0; g < 6; g++) {
            for (int h = 0; h < 6; h++) {
                check.due("LIKE, ENDS of a RING: " + g + ", " + h, r.like(g, h), ends[g] == ends[h] ? 1 : 0);
            }
        }
    }

    private static void likeMoved(Check check) {
        like(check, 2, Told.lit(0, -12), Told.lit(0, 12), 1);
        like(check, 2, Told.lit(0, -12, -11), Told.lit(0, 11, 12), 1);
        like(check, 2, Told.lit(0, -12, 11), Told.lit(0, -11, 12), 1);
        like(check, 2, Told.lit(0, -12, 12), Told.lit(0, -12, 12), 1);
        like(check, 2, Told.lit(0, -12, 12), Told.lit(0, -12, 11), 0);
        like(check, 2, Told.lit(0, -12, 12), Told.lit(0, -12), 0);
        like(check, 2, Told.lit(0, -12, -11), Told.lit(0, -12, 12), 0);
        like(check, 2, "aA", "tT", 1);
        like(check, 2, "aA", Told.lit(0, 12), 0);
        like(check, 2, "aA", Told.lit(0, -12), 0);
        like(check, 3, Told.lit(0, -12, -12), Told.lit(0, 12, 12), 1);
        like(check, 3, Told.lit(0, -12, -12), Told.lit(0, 12), 0);
        like(check, 3, Told.lit(0, 0, 0, 1), Told.lit(0, 0, 1, 1), 0);
    }

    private static void likeSums(Check check) {
        like(check, 2, Told.lit(12, 0, 1), Told.lit(12, 0, 11), 1);
        like(check, 2, Told.lit(12, 0, 1), Told.lit(12, 0, 2), 0);
        like(check, 2, Told.lit(12, 0), Told.lit(12, -1), 1);
        like(check, 2, Told.lit(12, 0, 12), Told.go(12), 1);
        like(check, 3, Told.lit(12, 0, 12), Told.go(12), 0);
        like(check, 2, Told.lit(-12, -12, 12), Told.go(-12), 1);
        like(check, 2, Told.lit(-12, -12, -11), Told.lit(-12, -1, 12), 1);
        like(check, 2, Told.lit(1, -12), Told.lit(1, 12), 1);
        like(check, 2, Told.lit(1, -12, 12), "t", 1);
        like(check, 2, Told.lit(-1, 5), "T", 0);
        like(check, 5, Told.lit(3, 0, 1, 1), Told.lit(3, 1, 2, 2), 1);
        like(check, 5, Told.lit(3, 0, 1, 1), Told.lit(3, 0, 0, 1), 0);
    }

    private static void like(Check check, int m, String g, String h, int due) {
        LampsAlongStreets x = Told.line(m, g, h);
        check.due("LIKE " + g + " and " + h + ", m " + m, x.like(0, 1), due);
        check.due("LIKE " + h + " and " + g + ", m " + m, x.like(1, 0), due);
    }

    private static void likeOnARing(Check check) {
        for (int n = 3; n <= 8; n++) {
            LampsAlongStreets x = Told.ring(n, 5, Told.lit(0, 0, 1, 1), Told.lit(0, n - 1, 0, 0), Told.lit(0, 1, 0, 0),
                Told.lit(n - 1, 0), Told.lit(n - 1, n - 1), Told.lit(n - 1, 0, 0));
            check.due("LIKE: SUMS moved round, RING of " + n, x.like(0, 1), 1);
            check.due("LIKE: the other way, RING of " + n, x.like(1, 0), 1);
            check.due("LIKE: turned about they aren't moved, RING of " + n, x.like(0, 2), 0);
            check.due("LIKE: one SUM, RING of " + n, x.like(3, 4), 1);
            check.due("LIKE: another SUM, RING of " + n, x.like(3, 5), 0);
        }
        LampsAlongStreets x = Told.ring(8, 2, Told.lit(4, 0, 1), Told.lit(4, 4, 3), Told.lit(4, 0, 2), Told.lit(4, 0, 4), "t4");
        check.due("LIKE: 4 SUMS of 8", x.like(0, 1), 1);
        check.due("LIKE: 4 other SUMS of 8", x.like(0, 2), 0);
        check.due("LIKE: SUMS that come round to 0", x.like(3, 4), 1);
    }

    private static void spheres(Check check) {
        for (int m = 2; m <= 5; m++) {
            for (int sort = 0; sort <= 1; sort++) {
                LampsAlongStreets x = sort == 0 ? Told.line(m) : Told.ring(3, m);
                check.due("SPHERE 0: BARE alone", x.sphere(0), 1);
                check.due("SPHERE 1: a, A, t, T; a and A are one with m 2", x.sphere(1), m == 2 ? 3 : 4);
            }
        }
        // All 3 times 8, or 27, WALKS, by hand; those that are left have LENGTH 6.
        int[][] due = {{1, 3, 4, 6, 6, 3}, {1, 4, 8, 16, 24, 20}};
        for (int m = 2; m <= 3; m++) {
            for (int k = 0; k <= 5; k++) {
                check.due("SPHERE " + k + " of the RING of 3, m " + m, Told.ring(3, m).sphere(k), due[m - 2][k]);
            }
            check.due("LENGTH of those that are left", allLit(1, 3, m, m - 1, 0).of(0, 2), 6);
        }
    }

    private static void writtenTurns(Check check) {
        String[][] due = {{"", "a"}, {"", "a", "A"}, {"", "a", "aa", "A"}, {"", "a", "aa", "AA", "A"}};
        for (int m = 2; m <= 5; m++) {
            LampsAlongStreets x = Told.line(m, "aA");
            for (int shows = 0; shows < m; shows++) {
                check.holds("WRITTEN: a, if what it shows is no more than m less that: " + shows + " of " + m,
                    Told.written(x, 0).equals(due[m - 2][shows]));
                x.step(0, 0);
            }
        }
    }

    private static void writtenWays(Check check) {
        written(check, Told.lit(0, 1), "taT");
        written(check, Told.lit(0, -1), "Tat");
        written(check, Told.lit(0, -1, 1), "TattaT");
        written(check, Told.lit(0, -1, 0, 1), "aTattaT");
        written(check, Told.lit(0, 0, 1), "ataT");
        written(check, Told.lit(0, -1, 0), "aTat");
        written(check, Told.lit(0, 1, 2), "tataTT");
        written(check, Told.lit(0, -2, -1), "TaTatt");
        written(check, Told.lit(0, -2, -1, 1, 2), "TaTatttataTT");
        written(check, Told.lit(-1, -2, -1, 1, 2), "tataTTTaTat");
        written(check, Told.lit(1, -1, 1), "Tatta");
        written(check, Told.lit(-1, -1, 1), "taTTa");
        written(check, Told.lit(-1, 1), "taTT");
        written(check, Told.lit(1, -1), "Tatt");
        written(check, Told.lit(2, 1), "tat");
        written(check, Told.lit(-2, -1), "TaT");
        written(check, Told.lit(3, 1, 2), "tatat");
        written(check, Told.lit(12, 12), Told.go(12) + "a");
        written(check, Told.lit(0, 12), Told.go(12) + "a" + Told.go(-12));
        written(check, Told.lit(0, -12), Told.go(-12) + "a" + Told.go(12));
        written(check, Told.lit(0, -12, 12), Told.go(-12) + "a" + Told.go(24) + "a" + Told.go(-12));
        written(check, Told.lit(-1, -12, 12), Told.go(12) + "a" + Told.go(-24) + "a" + Told.go(11));
        written(check, Told.lit(1, -12, 12), Told.go(-12) + "a" + Told.go(24) + "a" + Told.go(-11));
        written(check, Told.lit(-12, -12, 12), Told.go(12) + "a" + Told.go(-24) + "a");
        written(check, "aA", "");
        written(check, "a", "a");
        written(check, Told.go(12), Told.go(12));
        written(check, Told.go(-12), Told.go(-12));
    }

    private static void written(Check check, String word, String due) {
        LampsAlongStreets x = Told.line(2, word);
        String got = Told.written(x, 0);
        check.holds("WRITTEN of " + word + " is " + got + ", due " + due, got.equals(due));
        check.due("LENGTH of " + word, x.of(0, 2), due.length());
        check.due("behind the last letter of " + word, x.written(0, due.length()), -9);
    }
}
