/** Each sentence on LISTS, of Terms 3 and the promises 24 to 29, that names a boundary. */
final class ListEdges {
    private static final int LEAST_INT = Integer.MIN_VALUE;
    private static final int MOST_INT = Integer.MAX_VALUE;
    private static final int[] NO_LIST = {-1, 3, 4, LEAST_INT, MOST_INT};

    private ListEdges() {
    }

    static void run(Check check) {
        missing(check);
        listRefused(check);
        listAnew(check);
        putRefused(check);
        putAnyInt(check);
        lookRefused(check);
        laysRefused(check);
        laysPlaces(check);
        fromRefused(check);
        fromTooMany(check);
        fromOutOfRange(check);
        fromEnds(check);
        fromFewer(check);
        judgeRefused(check);
        judgePlaces(check);
    }

    /** LIST 0 has some places, 1 is missing, 2 has none; two WALKS on a RING of 4, m 3. */
    private static LampsAlongStreets withLists(int places) {
        LampsAlongStreets x = Told.crowded(Told.ring(4, 3, "ata2Ta", "T"));
        x.street(1, 4, 3);
        Told.word(x, "ata2tTt2");
        Told.word(x, "T");
        Told.tell(x, "tA");
        x.list(0, places);
        for (int i = 0; i < places; i++) {
            x.put(0, i, i % 3);
        }
        return x;
    }

    private static void missing(Check check) {
        Edge edge = new Edge(check, "LISTS 0 .. 2, missing at first", LampsAlongStreets::new);
        for (int list = 0; list <= 2; list++) {
            edge.onlyTells(-11, "put", list, 0, 0).onlyTells(-11, "put", list, -1, 0);
            edge.onlyTells(Told.FAR_LONG + 11, "look", list, 0).onlyTells(Told.FAR_LONG + 11, "look", list, 40);
            edge.onlyTells(-11, "from", list, 0);
        }
        Edge walks = new Edge(check, "-11 a LIST is missing", () -> withLists(4));
        walks.onlyTells(-11, "lays", 1, 0, 0).onlyTells(-11, "lays", 1, -1, 0).onlyTells(-11, "judge", 1, 0);
        walks.onlyTells(-11, "from", 1, 0).onlyTells(-11, "put", 1, 0, 0).onlyTells(Told.FAR_LONG + 11, "look", 1, 0);
    }

    private static void listRefused(Check check) {
        Edge edge = new Edge(check, "24: -1; -6 40; -14", () -> withLists(4));
        for (int list = 0; list <= 2; list++) {
            for (int n : new int[] {0, 1, 39, 40}) {
                edge.answers(1, "list", list, n);
            }
            edge.refuses(-6, "list", list, 41).refuses(-6, "list", list, 42).refuses(-6, "list", list, MOST_INT);
            edge.onlyTells(-14, "list", list, -1).onlyTells(-14, "list", list, -2).onlyTells(-14, "list", list, LEAST_INT);
        }
        for (int list : NO_LIST) {
            edge.refuses(-1, "list", list, 4).refuses(-1, "list", list, 41).refuses(-1, "list", list, -1);
        }
    }

    private static void listAnew(Check check) {
        for (int n : new int[] {0, 1, 5, 40}) {
            LampsAlongStreets x = withLists(6);
            check.due("24: a row of " + n, x.list(0, n), 1);
            for (int i = 0; i < n; i++) {
                check.due("24: all 0, place " + i + " of " + n, x.look(0, i), 0);
            }
            check.due("24: no place behind the last of " + n, x.look(0, n), Told.FAR_LONG + 13);
            check.due("24: the others stay", x.look(2, 0), Told.FAR_LONG + 13);
            check.due("24: the others stay missing", x.look(1, 0), Told.FAR_LONG + 11);
        }
    }

    private static void putRefused(Check check) {
        for (int places : new int[] {1, 4, 40}) {
            Edge edge = new Edge(check, "25: -1; -11; -13, " + places + " places", () -> withLists(places));
            edge.answers(1, "put", 0, 0, 8).answers(1, "put", 0, places - 1, 8);
            for (int i : new int[] {-1, places, places + 1, LEAST_INT, MOST_INT}) {
                edge.onlyTells(-13, "put", 0, i, 8).onlyTells(-11, "put", 1, i, 8).refuses(-1, "put", 3, i, 8);
            }
            for (int list : NO_LIST) {
                edge.refuses(-1, "put", list, 0, 8);
            }
        }
        new Edge(check, "25: of no place", () -> withLists(0)).onlyTells(-13, "put", 0, 0, 0).onlyTells(-13, "put", 0, -1, 0);
    }

    private static void putAnyInt(Check check) {
        LampsAlongStreets x = withLists(3);
        for (int v : new int[] {LEAST_INT, -1, 0, 1, MOST_INT}) {
            check.due("25: place i becomes v", x.put(0, 1, v), 1);
            check.due("26: place i, any int", x.look(0, 1), v);
            check.due("25: place i less 1 stays", x.look(0, 0), 0);
            check.due("25: place i and 1 stays", x.look(0, 2), 2);
        }
    }

    private static void lookRefused(Check check) {
        for (int places : new int[] {1, 4, 40}) {
            Edge edge = new Edge(check, "26: refused far, " + places + " places", () -> withLists(places));
            edge.answers(0, "look", 0, 0).answers((places - 1) % 3, "look", 0, places - 1);
            for (int i : new int[] {-1, places, places + 1, LEAST_INT, MOST_INT}) {
                edge.onlyTells(Told.FAR_LONG + 13, "look", 0, i).onlyTells(Told.FAR_LONG + 11, "look", 1, i);
                edge.onlyTells(Told.FAR_LONG + 13, "look", 2, i).refusesFar(-1, "look", -1, i);
            }
            for (int list : NO_LIST) {
                edge.refusesFar(-1, "look", list, 0);
            }
        }
    }

    private static void laysRefused(Check check) {
        Edge edge = new Edge(check, "27: -1 either; -11; -13 not all have a place", () -> withLists(4));
        edge.answers(4, "lays", 0, 0, 0).answers(4, "lays", 0, 0, 1);
        for (int list : NO_LIST) {
            edge.refuses(-1, "lays", list, 0, 0).refuses(-1, "lays", list, 1, 0).refuses(-1, "lays", list, 0, 2);
        }
        for (int walk : new int[] {-1, 2, 3, LEAST_INT, MOST_INT}) {
            edge.refuses(-1, "lays", 0, 0, walk).refuses(-1, "lays", 1, 0, walk).refuses(-1, "lays", 0, 9, walk);
        }
        for (int i : new int[] {-1, 1, 2, 4, 5, LEAST_INT, MOST_INT, MOST_INT - 3}) {
            edge.onlyTells(-13, "lays", 0, i, 0).onlyTells(-11, "lays", 1, i, 0).onlyTells(-13, "lays", 2, i, 0);
        }
        new Edge(check, "27: one place too few", () -> withLists(3)).onlyTells(-13, "lays", 0, 0, 0);
        Edge full = new Edge(check, "27: of 40 places", () -> withLists(40));
        full.answers(4, "lays", 0, 36, 0).onlyTells(-13, "lays", 0, 37, 0).onlyTells(-13, "lays", 0, 40, 0);
        Edge line = new Edge(check, "27: a LINE's 25", () -> lineWithList(25));
        line.answers(25, "lays", 0, 0, 0).onlyTells(-13, "lays", 0, 1, 0).onlyTells(-13, "lays", 0, -1, 0);
        new Edge(check, "27: a LINE's 25", () -> lineWithList(24)).onlyTells(-13, "lays", 0, 0, 0);
        Edge most = new Edge(check, "27: a LINE's 25 of 40", () -> lineWithList(40));
        most.answers(25, "lays", 0, 15, 0).onlyTells(-13, "lays", 0, 16, 0);
    }

    private static LampsAlongStreets lineWithList(int places) {
        LampsAlongStreets x = Told.line(3, Told.lit(0, -12, 12, 12), "aA");
        x.list(0, places);
        return x;
    }

    private static void laysPlaces(Check check) {
        LampsAlongStreets x = lineWithList(40);
        for (int i = 0; i < 40; i++) {
            x.put(0, i, 9);
        }
        check.due("27: how many", x.lays(0, 15, 0), 25);
        check.due("27: from place i on", x.look(0, 15), 1);
        check.due("27: not ahead of it", x.look(0, 14), 9);
        check.due("27: 0 where a LAMP is off", x.look(0, 16), 0);
        check.due("27: the last LAMP in the last place", x.look(0, 39), 2);
        x.lays(0, 0, 0);
        check.due("27: from place 0 on", x.look(0, 0), 1);
        check.due("27: the last LAMP", x.look(0, 24), 2);
        check.due("27: what lay behind it stays", x.look(0, 39), 2);
    }

    private static LampsAlongStreets walksAndLists(int walks) {
        LampsAlongStreets x = withLists(4);
        while (x.count(3) < walks) {
            Told.word(x, "t");
        }
        Told.tell(x, "a");
        return x;
    }

    private static void fromRefused(Check check) {
        Edge edge = new Edge(check, "28: -1 (LIST; END is no CORNER); -6 six there are; -11; -3", () -> walksAndLists(5));
        edge.answers(5, "from", 2, 0).answers(5, "from", 2, 3).answers(5, "from", 0, 0);
        Edge full = new Edge(check, "28: -6 six there are", () -> walksAndLists(6));
        full.refuses(-6, "from", 2, 0).refuses(-6, "from", 0, 3).refuses(-6, "from", 1, 0);
        for (int list : NO_LIST) {
            edge.refuses(-1, "from", list, 0).refuses(-1, "from", list, 4);
            full.refuses(-1, "from", list, 0).refuses(-1, "from", list, 4);
        }
        for (int end : new int[] {-1, 4, 5, LEAST_INT, MOST_INT}) {
            edge.refuses(-1, "from", 2, end).refuses(-1, "from", 1, end);
            full.refuses(-1, "from", 2, end).refuses(-1, "from", 1, end);
        }
        edge.onlyTells(-11, "from", 1, 0).onlyTells(-11, "from", 1, 3);
        Edge wrong = new Edge(check, "28: -1 and -6 ahead of -3", () -> {
            LampsAlongStreets x = walksAndLists(6);
            x.put(0, 0, 3);
            return x;
        });
        wrong.refuses(-6, "from", 0, 0).refuses(-1, "from", 0, 4).refuses(-1, "from", 3, 0);
    }

    private static void fromTooMany(Check check) {
        for (int n = 3; n <= 8; n++) {
            for (int more = -1; more <= 1; more++) {
                int corners = n;
                int places = n + more;
                Edge edge = new Edge(check, "28: -3 it tells more than there are CORNERS: " + places + " of " + n, () -> {
                    LampsAlongStreets x = Told.crowded(Told.ring(corners, 2, "t"));
                    x.list(0, places);
                    return x;
                });
                if (more <= 0) {
                    edge.answers(1, "from", 0, n - 1);
                } else {
                    edge.refuses(-3, "from", 0, n - 1).refuses(-1, "from", 0, n);
                }
            }
        }
        new Edge(check, "28: 25 on a LINE", () -> lineWithList(25)).answers(2, "from", 0, 12);
        new Edge(check, "28: 26 on a LINE", () -> lineWithList(26)).refuses(-3, "from", 0, 12).refuses(-1, "from", 0, 13);
        new Edge(check, "28: 40 on a LINE", () -> lineWithList(40)).refuses(-3, "from", 0, 0);
    }

    private static void fromOutOfRange(Check check) {
        for (int m = 2; m <= 5; m++) {
            for (int place : new int[] {0, 1, 3}) {
                for (int v : new int[] {LEAST_INT, -1, 0, m - 1, m, m + 1, MOST_INT}) {
                    int shades = m;
                    Edge edge = new Edge(check, "28: each 0 .. m less 1, m " + m + ", place " + place + " is " + v, () -> {
                        LampsAlongStreets x = Told.crowded(Told.ring(4, shades, "t"));
                        x.list(0, 4);
                        x.put(0, place, v);
                        return x;
                    });
                    if (v >= 0 && v < m) {
                        edge.answers(1, "from", 0, 0);
                    } else {
                        edge.refuses(-3, "from", 0, 0);
                    }
                }
            }
        }
    }

    private static void fromEnds(Check check) {
        Edge line = new Edge(check, "28: END is no CORNER", () -> Told.crowded(lineWithList(3)));
        line.answers(2, "from", 2, -12).answers(2, "from", 2, 0).answers(2, "from", 2, 12);
        for (int end : new int[] {-13, 13, -25, 25, LEAST_INT, MOST_INT}) {
            line.refuses(-1, "from", 2, end);
        }
        for (int n = 3; n <= 8; n++) {
            LampsAlongStreets x = Told.ring(n, 2);
            x.list(0, 0);
            check.due("28: END 0 on a RING of " + n, x.from(0, 0), 0);
            check.due("28: END n less 1 on a RING of " + n, x.from(0, n - 1), 1);
            check.due("28: it is the END", x.of(1, 0), n - 1);
            check.due("28: END n on a RING of " + n, x.from(0, n), -1);
            check.due("28: END -1 on a RING of " + n, x.from(0, -1), -1);
        }
    }

    private static void fromFewer(Check check) {
        for (int places : new int[] {0, 1, 12, 13, 24, 25}) {
            LampsAlongStreets x = Told.line(3);
            x.list(0, places);
            for (int i = 0; i < places; i++) {
                x.put(0, i, 2);
            }
            x.from(0, 5);
            check.due("28: 0 where it tells no more, " + places + " told", x.of(0, 1), places);
            for (int c = -12; c <= 12; c++) {
                check.due("28: from the least CORNER on, " + places + " told", x.lamp(0, c), c + 12 < places ? 2 : 0);
            }
        }
    }

    private static void judgeRefused(Check check) {
        Edge edge = new Edge(check, "29: -1 either; -11", () -> withLists(4));
        for (int list : NO_LIST) {
            edge.refuses(-1, "judge", list, 0).refuses(-1, "judge", list, 2);
        }
        for (int walk : new int[] {-1, 2, 3, LEAST_INT, MOST_INT}) {
            edge.refuses(-1, "judge", 0, walk).refuses(-1, "judge", 1, walk).refuses(-1, "judge", 2, walk);
        }
        edge.onlyTells(-11, "judge", 1, 0).onlyTells(-9, "judge", 2, 0).onlyTells(0, "judge", 0, 0);
    }

    private static void judgePlaces(Check check) {
        for (int n = 3; n <= 8; n++) {
            for (int places : new int[] {0, 1, n - 1, n, n + 1, 40}) {
                LampsAlongStreets x = Told.ring(n, 2, Told.lit(0, 0, n - 1));
                x.list(0, places);
                x.put(0, 0, 1);
                x.put(0, n - 1, 1);
                String call = "29: a LIST of " + places + " on a RING of " + n;
                check.due(call + ": -9, also if it tells fewer; a CORNER that isn't there", x.judge(0, 0), places <= n ? -9 : n);
                x.put(0, n - 1, 0);
                check.due(call + ": the last LAMP", x.judge(0, 0), places >= n ? n - 1 : -9);
                x.put(0, 0, -1);
                check.due(call + ": the first place that is otherwise", x.judge(0, 0), places > 0 ? 0 : -9);
            }
        }
        LampsAlongStreets x = lineWithList(26);
        x.lays(0, 0, 0);
        check.due("29: LINE, CORNER 13 isn't there", x.judge(0, 0), 25);
        x.list(0, 25);
        x.lays(0, 0, 0);
        check.due("29: LINE, all told", x.judge(0, 0), -9);
        x.put(0, 24, 1);
        check.due("29: LINE, CORNER 12 is otherwise", x.judge(0, 0), 24);
        x.put(0, 0, MOST_INT);
        check.due("29: LINE, CORNER -12 is otherwise", x.judge(0, 0), 0);
    }
}
