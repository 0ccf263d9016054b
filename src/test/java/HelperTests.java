/** Promises 19 to 23: helpers, steps. */
final class HelperTests {
    private HelperTests() {
    }

    static void run(Check check) {
        helpers(check);
        helps(check);
        taken(check);
        done(check);
        steps(check);
    }

    private static void helpers(Check check) {
        LampsAlongStreets x = new LampsAlongStreets();
        check.due("19: no KIND", x.helper(-1, -1), -2);
        check.due("19: no KIND", x.helper(6, 0), -2);
        check.due("19: FIGURE below", x.helper(0, -1), -4);
        check.due("19: FIGURE above", x.helper(0, 10), -6);
        check.due("19: first", x.helper(0, 0), 0);
        check.due("19: second", x.helper(5, 9), 1);
        check.due("19: third", x.helper(3, 1), 2);
        check.due("19: fourth", x.helper(4, 2), 3);
        check.due("19: four there are", x.helper(1, 1), -6);
        check.due("19: below is ahead of four", x.helper(1, -1), -4);
        check.due("19: other is ahead of below", x.helper(9, -1), -2);
        check.due("19: how many", x.count(4), 4);
        check.holds("19: REFUSALS", Told.refusals(x).equals("0 3 0 2 0 2"));
    }

    private static void helps(Check check) {
        int[] letters = {4, 5, 5, 10, 8, 6};
        int[] upward = {0, 1, -1, 2, 4, -1};
        for (int kind = 0; kind <= 5; kind++) {
            LampsAlongStreets x = Told.ring(3, 2);
            x.helper(kind, 3);
            check.due("20: KIND " + kind, x.helps(0, 0), kind);
            check.due("20: FIGURE of KIND " + kind, x.helps(0, 1), 3);
            check.due("20: LETTERS of KIND " + kind, x.helps(0, 2), letters[kind]);
            check.due("20: upward by KIND " + kind, x.helps(0, 3), upward[kind]);
        }
        LampsAlongStreets x = new LampsAlongStreets();
        x.helper(4, 0);
        x.helper(4, 9);
        x.helper(3, 9);
        check.due("20: FAR 0 is a WALKER", x.helps(0, 2) * 10 + x.helps(0, 3), 21);
        check.due("20: FAR 9", x.helps(1, 2) * 100 + x.helps(1, 3), 2010);
        check.due("20: TWICE 9", x.helps(2, 2) * 10 + x.helps(2, 3), 222);
        check.due("20: nobody", x.helps(3, 0), Told.FAR + 1);
        check.due("20: nobody is ahead of other", x.helps(-1, 4), Told.FAR + 1);
        check.due("20: other", x.helps(0, 4), Told.FAR + 2);
        check.due("20: other", x.helps(0, -1), Told.FAR + 2);
        check.holds("20: REFUSALS", Told.refusals(x).equals("2 2 0 0 0 0"));
    }

    private static void taken(Check check) {
        boolean[][] fits = {
            {true, false, false, false, false, false},
            {true, true, false, false, false, false},
            {true, false, true, false, false, false},
            {true, true, false, true, false, false},
            {true, true, false, false, true, false},
            {true, false, true, false, false, true}};
        for (int kind = 0; kind <= 5; kind++) {
            LampsAlongStreets x = new LampsAlongStreets();
            x.helper(kind, 1);
            for (int as = 0; as <= 5; as++) {
                check.due("21: KIND " + kind + " for " + as, x.taken(0, as), fits[kind][as] ? kind : -16);
            }
            check.due("21: no KIND", x.taken(0, 6), -2);
            check.due("21: no KIND", x.taken(0, -1), -2);
            check.due("21: no HELPER", x.taken(1, 6), -1);
            check.due("21: no HELPER", x.taken(-1, 0), -1);
            check.holds("21: -16 isn't counted", Told.refusals(x).equals("2 2 0 0 0 0"));
        }
    }

    private static void done(Check check) {
        String[] due = {"a2", "ta2", "a2T", "ta2ta2", "tta2", "a2TA"};
        for (int kind = 0; kind <= 5; kind++) {
            for (int sort = 0; sort <= 1; sort++) {
                LampsAlongStreets x = sort == 0 ? Told.line(5, "tat", "tat" + due[kind])
                    : Told.ring(5, 5, "tat", "tat" + due[kind]);
                x.helper(kind, 1);
                check.due("22: LENGTH then, KIND " + kind, x.done(0, 0), x.of(1, 2));
                check.holds("22: KIND " + kind, Told.walk(x, 0).equals(Told.walk(x, 1)));
            }
        }
        LampsAlongStreets x = Told.line(3, "t9t2", "T9T2");
        String one = Told.walk(x, 0);
        x.helper(3, 0);
        x.helper(4, 1);
        x.helper(2, 0);
        check.due("22: TWICE goes beyond", x.done(0, 0), -6);
        check.due("22: FAR goes beyond", x.done(1, 0), -6);
        check.holds("22: nothing changes", Told.walk(x, 0).equals(one));
        check.due("22: a, T", x.done(2, 1), 1 + 12);
        check.due("22: BACKER goes beyond", x.done(2, 1), -6);
        check.due("22: nothing changes", x.lamp(1, -12), 0);
        check.due("22: no HELPER", x.done(3, 0), -1);
        check.due("22: no WALK", x.done(0, 2), -1);
        check.due("22: neither", x.done(-1, -1), -1);
        check.holds("22: REFUSALS", Told.refusals(x).equals("3 0 0 0 0 3"));
    }

    private static void steps(Check check) {
        LampsAlongStreets x = Told.line(3, "t9t3", "T9T3");
        check.due("23: a", x.step(0, 0), 13);
        check.due("23: a", x.step(0, 0), 13);
        check.due("23: shows", x.lamp(0, 12), 2);
        check.due("23: A", x.step(0, 1), 13);
        check.due("23: A", x.step(0, 1), 12);
        check.due("23: beyond", x.step(0, 2), -6);
        check.due("23: T", x.step(0, 3), 11);
        check.due("23: t", x.step(0, 2), 12);
        check.due("23: beyond downward", x.step(1, 3), -6);
        check.due("23: END stays", x.of(1, 0), -12);
        check.due("23: no LETTER", x.step(0, 4), -2);
        check.due("23: no LETTER", x.step(0, -1), -2);
        check.due("23: no WALK", x.step(2, 4), -1);
        check.holds("23: REFUSALS", Told.refusals(x).equals("1 2 0 0 0 2"));
        LampsAlongStreets r = Told.ring(4, 2, "aA");
        check.due("23: round downward", r.step(0, 3), 1);
        check.due("23: END", r.of(0, 0), 3);
        check.due("23: round upward", r.step(0, 2), 0);
    }
}
