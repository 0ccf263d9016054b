/** Each sentence of Terms 3 on HELPERS, and of the promises 19 to 23, that names a boundary. */
final class HelperEdges {
    private static final int LEAST_INT = Integer.MIN_VALUE;
    private static final int MOST_INT = Integer.MAX_VALUE;

    private HelperEdges() {
    }

    static void run(Check check) {
        kindsAndFigures(check);
        fourHelpers(check);
        lettersOfEachFigure(check);
        helpsRefused(check);
        takenRefused(check);
        doneRefused(check);
        doneToTheLastCorners(check);
        doneBeyond(check);
        doneRound(check);
        doneTurnsRound(check);
        stepRefused(check);
    }

    private static LampsAlongStreets withHelpers(int many) {
        LampsAlongStreets x = Told.line(3, "ta", "T2a");
        for (int i = 0; i < many; i++) {
            x.helper(i + 1, 2 * i);
        }
        x.image();
        x.list(1, 3);
        Told.tell(x, "aT");
        return x;
    }

    private static void kindsAndFigures(Check check) {
        Edge edge = new Edge(check, "19: -2; -4; -6 (9)", () -> withHelpers(3));
        for (int kind = 0; kind <= 5; kind++) {
            edge.answers(3, "helper", kind, 0).answers(3, "helper", kind, 9);
            edge.refuses(-4, "helper", kind, -1).refuses(-4, "helper", kind, LEAST_INT);
            edge.refuses(-6, "helper", kind, 10).refuses(-6, "helper", kind, 11).refuses(-6, "helper", kind, MOST_INT);
        }
        for (int kind : new int[] {-1, 6, 7, LEAST_INT, MOST_INT}) {
            edge.refuses(-2, "helper", kind, 0).refuses(-2, "helper", kind, -1).refuses(-2, "helper", kind, 10);
        }
    }

    private static void fourHelpers(Check check) {
        for (int there = 0; there <= 3; there++) {
            int many = there;
            new Edge(check, "HELPERS, numbered as they come, 4 at most", () -> withHelpers(many))
                .answers(there, "helper", 0, 5).answers(there, "count", 4).refuses(-1, "taken", there, 0);
        }
        Edge full = new Edge(check, "19: -6 four there are", () -> withHelpers(4));
        full.refuses(-6, "helper", 0, 0).refuses(-6, "helper", 5, 9).refuses(-6, "helper", 0, 10);
        full.refuses(-4, "helper", 0, -1).refuses(-2, "helper", 6, 0).refuses(-2, "helper", -1, -1);
        full.answers(4, "count", 4).answers(4, "taken", 3, 4).refuses(-1, "taken", 4, 0);
    }

    private static void lettersOfEachFigure(Check check) {
        for (int figure = 0; figure <= 9; figure++) {
            int[] letters = {figure + 1, figure + 2, figure + 2, 2 * figure + 4, 2 * figure + 2, figure + 3};
            int[] upward = {0, 1, -1, 2, figure + 1, -1};
            for (int kind = 0; kind <= 5; kind++) {
                LampsAlongStreets x = Told.line(5, "aA");
                x.helper(kind, figure);
                String call = "KIND " + kind + ", FIGURE " + figure;
                check.due(call, x.helps(0, 0), kind);
                check.due(call + ": FIGURE", x.helps(0, 1), figure);
                check.due(call + ": how many LETTERS", x.helps(0, 2), letters[kind]);
                check.due(call + ": upward", x.helps(0, 3), upward[kind]);
                x.done(0, 0);
                check.due(call + ": END moved by that", x.of(0, 0), upward[kind]);
            }
        }
    }

    private static void helpsRefused(Check check) {
        Edge edge = new Edge(check, "20: refused far", () -> withHelpers(3));
        edge.answers(1, "helps", 0, 0).answers(4, "helps", 2, 1).answers(2, "helps", 0, 2).answers(2, "helps", 2, 3);
        edge.refusesFar(-1, "helps", 3, 0).refusesFar(-1, "helps", 3, 4);
        for (int helper : new int[] {-1, 3, 4, 5, LEAST_INT, MOST_INT}) {
            edge.refusesFar(-1, "helps", helper, 0).refusesFar(-1, "helps", helper, 4).refusesFar(-1, "helps", helper, -1);
        }
        for (int what : new int[] {-1, 4, 5, LEAST_INT, MOST_INT}) {
            edge.refusesFar(-2, "helps", 0, what).refusesFar(-2, "helps", 2, what);
        }
        Edge full = new Edge(check, "20: four there are", () -> withHelpers(4));
        full.answers(4, "helps", 3, 0).refusesFar(-1, "helps", 4, 0).refusesFar(-1, "helps", MOST_INT, 0);
    }

    private static void takenRefused(Check check) {
        // KINDS 1 WALKER, 2 BACKER, 3 TWICE, 4 FAR.
        Edge edge = new Edge(check, "21: -1; -2; -16", () -> withHelpers(4));
        edge.answers(1, "taken", 0, 0).answers(1, "taken", 0, 1).answers(2, "taken", 1, 0).answers(3, "taken", 2, 1);
        edge.answers(3, "taken", 2, 0).answers(4, "taken", 3, 4).answers(4, "taken", 3, 1);
        edge.onlyTells(-16, "taken", 0, 2).onlyTells(-16, "taken", 0, 3).onlyTells(-16, "taken", 1, 1);
        edge.onlyTells(-16, "taken", 1, 5).onlyTells(-16, "taken", 2, 4).onlyTells(-16, "taken", 3, 3);
        for (int helper : new int[] {-1, 4, 5, LEAST_INT, MOST_INT}) {
            edge.refuses(-1, "taken", helper, 0).refuses(-1, "taken", helper, 5).refuses(-1, "taken", helper, 6);
            edge.refuses(-1, "taken", helper, -1);
        }
        for (int kind : new int[] {-1, 6, 7, LEAST_INT, MOST_INT}) {
            edge.refuses(-2, "taken", 0, kind).refuses(-2, "taken", 3, kind);
        }
        new Edge(check, "21: there is none", LampsAlongStreets::new).refuses(-1, "taken", 0, 0).refuses(-1, "taken", 0, 6);
    }

    private static void doneRefused(Check check) {
        Edge edge = new Edge(check, "22: -1 either", () -> withHelpers(3));
        // A WALKER 0 behind ta: t, a.
        edge.answers(4, "done", 0, 0).refuses(-1, "done", 3, 0).refuses(-1, "done", 0, 2).refuses(-1, "done", 3, 2);
        for (int nobody : CallEdges.NOBODY) {
            edge.refuses(-1, "done", nobody, 0).refuses(-1, "done", 0, nobody).refuses(-1, "done", nobody, nobody);
        }
    }

    private static LampsAlongStreets standing(int kind, int figure, int end) {
        LampsAlongStreets x = Told.line(3, "a", Told.lit(end, 0));
        x.helper(kind, figure);
        x.image();
        x.list(0, 4);
        Told.tell(x, "ta");
        return x;
    }

    private static void doneToTheLastCorners(Check check) {
        // KIND, FIGURE, the last END from which it can be done, by how much it moves.
        int[][] due = {{0, 0, 12, 0}, {0, 9, -12, 0}, {1, 0, 11, 1}, {2, 0, -11, -1}, {3, 0, 10, 2}, {4, 0, 11, 1},
            {4, 1, 10, 2}, {4, 9, 2, 10}, {5, 0, -11, -1}, {5, 9, -11, -1}};
        for (int[] of : due) {
            LampsAlongStreets x = standing(of[0], of[1], of[2]);
            String call = "a HELPER done to a last CORNER: KIND " + of[0] + ", FIGURE " + of[1] + ", END " + of[2];
            int answer = x.done(0, 1);
            check.due(call, answer, x.of(1, 2));
            check.due(call + ": END", x.of(1, 0), of[2] + of[3]);
            check.due(call + ": at a last CORNER", Math.abs(x.of(1, 0)), 12);
        }
    }

    private static void doneBeyond(Check check) {
        // KIND, FIGURE, END: some of their LETTERS could be done, and none shows.
        int[][] due = {{1, 0, 12}, {1, 9, 12}, {2, 0, -12}, {2, 9, -12}, {3, 0, 12}, {3, 0, 11}, {3, 9, 11}, {4, 0, 12},
            {4, 1, 11}, {4, 1, 12}, {4, 9, 3}, {4, 9, 12}, {5, 0, -12}, {5, 9, -12}};
        for (int[] of : due) {
            new Edge(check, "22: -6 it can't be, KIND " + of[0] + ", FIGURE " + of[1] + ", END " + of[2],
                () -> standing(of[0], of[1], of[2])).refuses(-6, "done", 0, 1);
        }
        Edge edge = new Edge(check, "22: -1 ahead of -6", () -> standing(1, 0, 12));
        edge.refuses(-1, "done", 1, 1).refuses(-1, "done", 0, 2).refuses(-6, "done", 0, 1);
    }

    private static void doneRound(Check check) {
        int[] upward = {0, 1, -1, 2, 10, -1};
        for (int n = 3; n <= 8; n++) {
            for (int kind = 0; kind <= 5; kind++) {
                for (int end = 0; end < n; end++) {
                    LampsAlongStreets x = Told.ring(n, 2, Told.lit(end));
                    x.helper(kind, 9);
                    String call = "a HELPER done round a RING of " + n + ", KIND " + kind + ", END " + end;
                    check.due(call, x.done(0, 0), x.of(0, 2));
                    check.due(call + ": END", x.of(0, 0), Math.floorMod(end + upward[kind], n));
                }
            }
        }
    }

    private static void doneTurnsRound(Check check) {
        for (int m = 2; m <= 5; m++) {
            for (int figure = 0; figure <= 9; figure++) {
                LampsAlongStreets x = Told.line(m, "aA", "aA");
                x.helper(0, figure);
                x.helper(5, figure);
                x.done(0, 0);
                check.due("a TURNER's LAMP comes round: FIGURE " + figure + ", m " + m, x.lamp(0, 0), (figure + 1) % m);
                x.done(1, 1);
                check.due("a MILD one's, FIGURE " + figure + ", m " + m, x.lamp(1, 0), (figure + 1) % m);
                check.due("his A behind it: 0 comes to m less 1, m " + m, x.lamp(1, -1), m - 1);
            }
        }
    }

    private static void stepRefused(Check check) {
        Edge edge = new Edge(check, "23: -1; -2 letter; -6", () -> Told.crowded(Told.line(3, "ta", Told.go(12), Told.go(-12))));
        edge.answers(2, "step", 0, 0).answers(1, "step", 0, 1).answers(3, "step", 0, 2).answers(3, "step", 0, 3);
        for (int letter : new int[] {-1, 4, 5, 'a', LEAST_INT, MOST_INT}) {
            edge.refuses(-2, "step", 0, letter).refuses(-2, "step", 1, letter).refuses(-1, "step", 3, letter);
        }
        edge.refuses(-6, "step", 1, 2).refuses(-6, "step", 2, 3).refuses(-1, "step", 3, 2);
        for (int walk : CallEdges.NOBODY) {
            edge.refuses(-1, "step", walk, 0).refuses(-1, "step", walk, 3).refuses(-1, "step", walk, 4);
        }
    }
}
