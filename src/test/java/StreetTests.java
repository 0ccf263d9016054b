/** Promises 1 to 11: the street and its walks. */
final class StreetTests {
    private StreetTests() {
    }

    static void run(Check check) {
        newObject(check);
        letters(check);
        words(check);
        faults(check);
        streets(check);
        drops(check);
        figures(check);
        deadEnds(check);
        orders(check);
        lamps(check);
        products(check);
        inverses(check);
        powers(check);
        conjugates(check);
    }

    private static void newObject(Check check) {
        LampsAlongStreets x = new LampsAlongStreets();
        check.due("1: SORT", x.count(0), 0);
        check.due("1: CORNERS", x.count(1), 25);
        check.due("1: m", x.count(2), 2);
        check.due("1: WALKS", x.count(3), 0);
        check.due("1: HELPERS", x.count(4), 0);
        check.due("1: letters", x.count(5), 0);
        check.holds("1: REFUSALS", Told.refusals(x).equals("0 0 0 0 0 0"));
        check.due("1: no LIST", x.put(0, 0, 0), -11);
        check.due("1: no IMAGE", x.on(), -3);
        check.due("1: no WALK", x.lamp(0, 0), -1);
    }

    private static void letters(Check check) {
        LampsAlongStreets x = new LampsAlongStreets();
        check.due("2: letter(-1)", x.letter(-1), -4);
        check.due("2: letter(256)", x.letter(256), -6);
        check.due("2: letter(0)", x.letter(0), 1);
        check.due("2: letter(255)", x.letter(255), 2);
        for (int i = 3; i <= 72; i++) {
            check.due("2: letter " + i, x.letter('a'), i);
        }
        check.due("2: the 73rd", x.letter('a'), -6);
        check.due("2: below comes first", x.letter(-1), -4);
        check.due("2: 72 stay", x.count(5), 72);
        check.holds("2: REFUSALS", Told.refusals(x).equals("0 0 0 2 0 2"));
        check.due("2: the first is a stranger", x.word(), -1000);
        check.due("2: then there is room again", x.letter('a'), 1);
    }

    private static void words(Check check) {
        LampsAlongStreets x = Told.line(3);
        check.due("3: a", Told.word(x, "a"), 0);
        check.due("3: letters are no more", x.count(5), 0);
        check.due("3: A", Told.word(x, "A"), 1);
        check.due("3: tat2A", Told.word(x, "tat2A"), 2);
        check.due("3: T3a2", Told.word(x, "T3a2"), 3);
        check.due("3: aaa", Told.word(x, "aaa"), 4);
        check.due("3: tT", Told.word(x, "tT"), 5);
        check.holds("3: walk of a", Told.walk(x, 0).equals("00 0 0 0 0 0 0 0 0 0 0 0|1 0 0 0 0 0 0 0 0 0 0 0 0".replaceFirst("0", "0 ")));
        check.due("3: a shows", x.lamp(0, 0), 1);
        check.due("3: A shows", x.lamp(1, 0), 2);
        check.due("3: tat2A shows", x.lamp(2, 1), 1);
        check.due("3: tat2A shows behind", x.lamp(2, 3), 2);
        check.due("3: tat2A ends", x.of(2, 0), 3);
        check.due("3: T3a2 shows", x.lamp(3, -3), 2);
        check.due("3: T3a2 ends", x.of(3, 0), -3);
        check.due("3: aaa is bare", x.of(4, 2), 0);
        check.due("3: tT is bare", x.of(5, 2), 0);
        Told.tell(x, "b");
        check.due("3: six there are", x.word(), -6);
        check.due("3: the letters stay", x.count(5), 1);
        x.drop();
        check.due("3: then the FAULT", x.word(), -1000);
        check.holds("3: a FAULT isn't counted", Told.refusals(x).equals("0 0 0 0 0 1"));
        LampsAlongStreets ring = Told.ring(3, 2, "t4", "T", "t9T9t9t9t9t9t9t9t9t9");
        check.due("3: round upward", ring.of(0, 0), 1);
        check.due("3: round downward", ring.of(1, 0), 2);
        check.due("3: often round", ring.of(2, 0), 0);
        StringBuilder longest = new StringBuilder();
        for (int i = 0; i < 36; i++) {
            longest.append("a3");
        }
        check.due("3: 72 letters", Told.word(Told.line(5), longest.toString()), 0);
    }

    private static void faults(Check check) {
        String[] told = {"", "b", "1", "0", "a0", "a10", "a12", "aa1a11", "a b", "at9T9a9x", "a5c", "T9a9t1A1\u00ff"};
        int[] due = {-1000, -1000, -1000, -1000, -1001, -1002, -1002, -1005, -1001, -1007, -1002, -1008};
        for (int i = 0; i < told.length; i++) {
            LampsAlongStreets x = new LampsAlongStreets();
            check.due("3: FAULT of '" + told[i] + "'", Told.word(x, told[i]), due[i]);
            check.due("3: no WALK of '" + told[i] + "'", x.count(3), 0);
            check.due("3: no letters behind '" + told[i] + "'", x.count(5), 0);
        }
        check.due("3: too far upward", Told.word(Told.line(2), "at9at4a"), -2004);
        check.due("3: too far downward", Told.word(Told.line(2), "T9T3aT"), -2005);
        check.due("3: a stranger comes first", Told.word(Told.line(2), "t9t9z"), -1004);
        check.due("3: just on the last corners", Told.word(Told.line(2), "t9t3T9T9T6"), 0);
        check.due("3: a ring goes on", Told.word(Told.ring(3, 2), "t9t9t9"), 0);
    }

    private static void streets(Check check) {
        LampsAlongStreets x = new LampsAlongStreets();
        int[][] given = {{-1, 4, 2}, {2, 0, 0}, {1, 2, 2}, {1, 4, 1}, {0, 4, 1}, {1, 9, 2}, {1, 9, 1}, {1, 2, 6},
            {1, 8, 6}, {0, 4, 6}, {1, Integer.MIN_VALUE, 2}, {1, Integer.MAX_VALUE, 2}};
        int[] due = {-2, -2, -4, -4, -4, -6, -4, -4, -6, -6, -4, -6};
        for (int i = 0; i < given.length; i++) {
            check.due("4: wrong street " + i, x.street(given[i][0], given[i][1], given[i][2]), due[i]);
        }
        check.due("4: nothing changed", x.count(1) * 100 + x.count(2), 2502);
        check.holds("4: REFUSALS", Told.refusals(x).equals("0 2 0 6 0 4"));
        Told.word(x, "a");
        x.helper(0, 0);
        Told.tell(x, "at");
        x.list(0, 2);
        check.due("4: refused, all stays", x.street(1, 3, 9), -6);
        check.due("4: the WALK is there", x.count(3), 1);
        check.due("4: RING", x.street(1, 3, 5), 3);
        check.due("4: sort", x.count(0), 1);
        check.due("4: corners", x.count(1), 3);
        check.due("4: m", x.count(2), 5);
        check.due("4: no WALKS", x.count(3), 0);
        check.due("4: no HELPERS", x.count(4), 0);
        check.due("4: letters stay", x.count(5), 2);
        check.due("4: LISTS stay", x.put(0, 1, 7), 1);
        check.due("4: RING of 8", x.street(1, 8, 2), 8);
        check.due("4: LINE, n doesn't matter", x.street(0, -5, 3), 25);
        check.due("4: LINE, n doesn't matter", x.street(0, 1000, 5), 25);
    }

    private static void drops(Check check) {
        LampsAlongStreets x = Told.line(2, "a", "t");
        check.due("5: drop", x.drop(), 1);
        check.due("5: the last went", x.of(0, 1), 1);
        check.due("5: it is no more", x.lamp(1, 0), -1);
        check.due("5: drop", x.drop(), 0);
        check.due("5: none", x.drop(), -3);
        check.due("5: the next is new", Told.word(x, "t"), 0);
        check.due("5: and bare but for its END", x.of(0, 1), 0);
        check.holds("5: REFUSALS", Told.refusals(x).equals("1 0 1 0 0 0"));
    }

    private static void figures(Check check) {
        LampsAlongStreets x = Told.line(5, "t2a3T4a2t", "t3aT5", "t2at9t1T9T2", "T2at5aT");
        int[] due = {-1, 2, 4 + 7, 4, 7};
        for (int what = 0; what < due.length; what++) {
            check.due("6: of(0, " + what + ")", x.of(0, what), due[what]);
        }
        check.due("6: up, then down", x.of(1, 4), 8);
        check.due("6: up and a way back", x.of(2, 4), 3);
        check.due("6: down first", x.of(3, 4), 8);
        LampsAlongStreets r = Told.ring(8, 2, "t7aT6", "t4at3", "t2at4at2", "t3at2aT4");
        check.due("6: a ring's short way, down and up again", r.of(0, 4), 3);
        check.due("6: half round and further on", r.of(1, 4), 7);
        check.due("6: all round", r.of(2, 4), 8);
        check.due("6: down to 5 and 3, then up or down to 1", r.of(3, 4), 7);
        check.due("6: TURNS", r.of(3, 3), 2);
        check.due("6: nobody", x.of(4, 0), Told.FAR + 1);
        check.due("6: nobody", x.of(-1, 9), Told.FAR + 1);
        check.due("6: other", x.of(0, 8), Told.FAR + 2);
        check.due("6: other", x.of(0, -1), Told.FAR + 2);
        check.holds("6: REFUSALS", Told.refusals(x).equals("2 2 0 0 0 0"));
    }

    private static void deadEnds(Check check) {
        LampsAlongStreets x = Told.line(2, "taTaTat", "t2aTaTaTaTat2", "aA", "t9t3", "t9t3a");
        check.due("6: all about him lit: DEAD", x.of(0, 5), 1);
        check.due("6: tt costs as much, a third t is longer", x.of(0, 6), 3);
        check.due("6: two lit to either side: DEAD", x.of(1, 5), 1);
        check.due("6: four letters aren't enough", x.of(1, 6), -9);
        check.due("6: BARE isn't dead", x.of(2, 5), 0);
        check.due("6: DEPTH of BARE", x.of(2, 6), 1);
        check.due("6: on the last corner a makes it longer", x.of(3, 5), 0);
        check.due("6: DEPTH there", x.of(3, 6), 1);
        check.due("6: its lamp on, T makes it longer", x.of(4, 5), 0);
        check.due("6: looking changes nothing", x.of(0, 0) * 10 + x.of(0, 1), 3);
        LampsAlongStreets three = Told.line(3, "taTaTat");
        check.due("6: m 3, a second turn costs no more: DEAD", three.of(0, 5), 1);
        LampsAlongStreets four = Told.line(4, "taTaTat", "ta2Ta2Ta2t");
        check.due("6: m 4, one turn more is longer", four.of(0, 5), 0);
        check.due("6: m 4, half round is DEAD", four.of(1, 5), 1);
        check.due("6: m 4, half round, DEPTH", four.of(1, 6), 3);
        LampsAlongStreets r = Told.ring(3, 2, "ataT", "atata");
        check.due("6: RING, DEAD", r.of(0, 5), 1);
        check.due("6: RING, DEPTH 2", r.of(0, 6), 2);
        LampsAlongStreets all = Told.ring(3, 2, "atatat");
        check.due("6: all of a RING lit: DEAD", all.of(0, 5), 1);
        check.due("6: and nothing is longer near by", all.of(0, 6), -9);
        check.due("6: RING of 7, DEPTH 4", Told.ring(7, 2, "atatatattattt2").of(0, 6), 4);
    }

    private static void orders(Check check) {
        LampsAlongStreets x = Told.line(4, "a2", "ta", "taT2a2t", "aA");
        check.due("6: ORDER of a2, m 4", x.of(0, 7), 2);
        check.due("6: ORDER of one who goes away", x.of(1, 7), -9);
        check.due("6: ORDER of a and a2, m 4", x.of(2, 7), 4);
        check.due("6: ORDER of BARE", x.of(3, 7), 1);
        LampsAlongStreets r = Told.ring(6, 3, "t", "at", "at2", "t3", "at2At4", "at2At2");
        int[] due = {6, 18, 9, 2, 3, 3};
        for (int walk = 0; walk < due.length; walk++) {
            check.due("6: ORDER " + walk + " on a RING of 6, m 3", r.of(walk, 7), due[walk]);
        }
        check.due("6: the greatest ORDER", Told.ring(8, 5, "at").of(0, 7), 40);
    }

    private static void lamps(Check check) {
        LampsAlongStreets x = Told.line(3, "a2t9t3a");
        check.due("7: lamp", x.lamp(0, 0), 2);
        check.due("7: last", x.lamp(0, 12), 1);
        check.due("7: first", x.lamp(0, -12), 0);
        check.due("7: no CORNER", x.lamp(0, 13), -1);
        check.due("7: no CORNER", x.lamp(0, -13), -1);
        check.due("7: no CORNER", x.lamp(0, Integer.MAX_VALUE), -1);
        check.due("7: no CORNER", x.lamp(0, Integer.MIN_VALUE), -1);
        check.due("7: no WALK", x.lamp(1, 0), -1);
        check.holds("7: REFUSALS", Told.refusals(x).equals("5 0 0 0 0 0"));
        LampsAlongStreets r = Told.ring(4, 3, "Ta");
        check.due("7: ring", r.lamp(0, 3), 1);
        check.due("7: no such on a ring", r.lamp(0, 4), -1);
        check.due("7: none below 0 on a ring", r.lamp(0, -1), -1);
    }

    private static void products(Check check) {
        LampsAlongStreets x = Told.line(3, "t2aT", "at2a2T");
        check.due("8: times", x.times(0, 1), 2);
        check.due("8: END", x.of(2, 0), 2);
        check.due("8: moved", x.lamp(2, 1), 1);
        check.due("8: first's own", x.lamp(2, 2), 1);
        check.due("8: moved", x.lamp(2, 3), 2);
        check.due("8: three lit", x.of(2, 1), 3);
        check.due("8: the other way", x.times(1, 0), 3);
        check.due("8: moved", x.lamp(3, 3), 1);
        check.due("8: kept", x.lamp(3, 2), 2);
        check.due("8: kept", x.lamp(3, 0), 1);
        check.due("8: itself", x.times(0, 0), 4);
        check.due("8: its own and moved", x.lamp(4, 2) * 10 + x.lamp(4, 3), 11);
        check.due("8: no WALK", x.times(0, 5), -1);
        check.due("8: no WALK", x.times(-1, 0), -1);
        x.times(0, 0);
        check.due("8: six", x.times(0, 0), -6);
        check.due("8: -1 is ahead of six", x.times(0, 6), -1);
        check.holds("8: REFUSALS", Told.refusals(x).equals("3 0 0 0 0 1"));
        LampsAlongStreets far = Told.line(2, "t9", "t9t3aT9T3", "t3");
        check.due("8: a lamp beyond", far.times(0, 1), -6);
        check.due("8: an END beyond", far.times(0, 0), -6);
        check.due("8: just there", far.times(0, 2), 3);
        check.due("8: lamps of the first stay where they are", far.times(1, 0), 4);
        check.holds("8: REFUSALS", Told.refusals(far).equals("0 0 0 0 0 2"));
        LampsAlongStreets same = Told.line(3, "a2");
        same.times(0, 0);
        check.due("8: both on one CORNER, round", same.lamp(1, 0), 1);
        LampsAlongStreets r = Told.ring(5, 2, "t4a", "t3a");
        check.due("8: ring", r.times(0, 1), 2);
        check.due("8: ring END", r.of(2, 0), 2);
        check.due("8: ring lamps", r.lamp(2, 2) * 10 + r.lamp(2, 4), 11);
    }

    private static void inverses(Check check) {
        LampsAlongStreets x = Told.line(3, "t2aT", "T9T3a", "t3aT9T5");
        check.due("9: inverse", x.inverse(0), 3);
        check.due("9: END", x.of(3, 0), -1);
        check.due("9: lamp", x.lamp(3, 1), 2);
        check.due("9: one lit", x.of(3, 1), 1);
        check.due("9: product", x.times(0, 3), 4);
        check.due("9: is BARE", x.of(4, 2), 0);
        check.due("9: END of that which ends far down", x.inverse(1), 5);
        check.due("9: its lamp comes to 0", x.lamp(5, 0), 2);
        check.due("9: no WALK", x.inverse(6), -1);
        check.due("9: six", x.inverse(0), -6);
        x.drop();
        check.due("9: a lamp beyond", x.inverse(2), -6);
        check.holds("9: REFUSALS", Told.refusals(x).equals("1 0 0 0 0 2"));
        LampsAlongStreets r = Told.ring(5, 4, "t3at");
        r.inverse(0);
        check.due("9: ring END", r.of(1, 0), 1);
        check.due("9: ring lamp", r.lamp(1, 4), 3);
        r.times(1, 0);
        check.due("9: from the other side, too", r.of(2, 2), 0);
    }

    private static void powers(Check check) {
        LampsAlongStreets x = Told.line(3, "at2");
        check.due("10: power 0", x.power(0, 0), 1);
        check.due("10: is BARE", x.of(1, 2), 0);
        check.due("10: power 1", x.power(0, 1), 2);
        check.holds("10: is itself", Told.walk(x, 2).equals(Told.walk(x, 0)));
        check.due("10: power 6", x.power(0, 6), 3);
        check.due("10: END", x.of(3, 0), 12);
        check.due("10: lit", x.of(3, 1), 6);
        check.due("10: lamp", x.lamp(3, 10), 1);
        check.due("10: power 7", x.power(0, 7), -6);
        check.due("10: power -1", x.power(0, -1), -4);
        check.due("10: no WALK", x.power(4, -1), -1);
        check.due("10: beyond", x.power(3, 2), -6);
        x.power(0, 2);
        x.power(0, 2);
        check.due("10: six", x.power(0, 2), -6);
        check.due("10: below is ahead of six", x.power(0, -1), -4);
        check.holds("10: REFUSALS", Told.refusals(x).equals("1 0 0 2 0 3"));
        LampsAlongStreets r = Told.ring(3, 2, "at2");
        r.power(0, 6);
        check.due("10: ring, round twice", r.of(1, 2), 0);
    }

    private static void conjugates(Check check) {
        LampsAlongStreets x = Told.line(3, "a", "t2", "at");
        check.due("11: conjugate", x.conjugate(0, 1), 3);
        check.due("11: END", x.of(3, 0), 0);
        check.due("11: the lamp came downward", x.lamp(3, -2), 1);
        check.due("11: one lit", x.of(3, 1), 1);
        check.due("11: conjugate", x.conjugate(2, 0), 4);
        check.due("11: (A)(at)(a)", x.of(4, 0) * 100 + x.lamp(4, 0) * 10 + x.lamp(4, 1), 101);
        check.due("11: it is like", x.like(4, 2), 1);
        check.due("11: no WALK", x.conjugate(0, 5), -1);
        check.due("11: no WALK", x.conjugate(5, 0), -1);
        x.conjugate(0, 0);
        check.due("11: six", x.conjugate(0, 0), -6);
        check.holds("11: REFUSALS", Told.refusals(x).equals("2 0 0 0 0 1"));
        LampsAlongStreets far = Told.line(2, "t9", "T9", "t9t3aT9T9", "aT9");
        check.due("11: INVERSE of the second, END 9, TIMES the first is beyond", far.conjugate(0, 1), -6);
        check.due("11: INVERSE of the second can't be", far.conjugate(0, 2), -6);
        check.due("11: t9 then t9 is beyond", far.conjugate(0, 3), -6);
        check.due("11: T9 then T9 is beyond", far.conjugate(1, 0), -6);
        check.due("11: REFUSALS -6", far.count(16), 4);
        check.due("11: there and back", far.conjugate(0, 0), 4);
        check.holds("11: by itself it is itself", Told.walk(far, 4).equals(Told.walk(far, 0)));
    }
}
