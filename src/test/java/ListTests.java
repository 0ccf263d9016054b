/** Promises 24 to 29: lists of numbers. */
final class ListTests {
    private ListTests() {
    }

    static void run(Check check) {
        lists(check);
        looks(check);
        lays(check);
        from(check);
        judges(check);
    }

    private static void lists(Check check) {
        LampsAlongStreets x = new LampsAlongStreets();
        check.due("24: list", x.list(0, 3), 1);
        check.due("24: all 0", x.look(0, 2), 0);
        x.put(0, 2, 9);
        check.due("24: anew", x.list(0, 4), 1);
        check.due("24: all 0 again", x.look(0, 2), 0);
        check.due("24: 40", x.list(2, 40), 1);
        check.due("24: none", x.list(1, 0), 1);
        check.due("24: not 41", x.list(0, 41), -6);
        check.due("24: not below 0", x.list(0, -1), -14);
        check.due("24: it stays", x.look(0, 3), 0);
        check.due("24: no LIST", x.list(3, 41), -1);
        check.due("24: no LIST", x.list(-1, -1), -1);
        check.holds("24: -14 isn't counted", Told.refusals(x).equals("2 0 0 0 0 1"));
    }

    private static void looks(Check check) {
        LampsAlongStreets x = new LampsAlongStreets();
        check.due("25: missing", x.put(0, 0, 1), -11);
        check.due("26: missing", x.look(0, 0), Told.FAR_LONG + 11);
        x.list(0, 2);
        check.due("25: put", x.put(0, 1, Integer.MIN_VALUE), 1);
        check.due("26: look", x.look(0, 1), Integer.MIN_VALUE);
        check.due("26: look", x.look(0, 0), 0);
        check.due("25: no place", x.put(0, 2, 1), -13);
        check.due("25: no place", x.put(0, -1, 1), -13);
        check.due("26: no place", x.look(0, 2), Told.FAR_LONG + 13);
        check.due("26: no place", x.look(0, -1), Told.FAR_LONG + 13);
        check.due("25: no LIST", x.put(3, 0, 1), -1);
        check.due("26: no LIST", x.look(-1, 0), Told.FAR_LONG + 1);
        check.holds("26: -11, -13 aren't counted", Told.refusals(x).equals("2 0 0 0 0 0"));
    }

    private static void lays(Check check) {
        LampsAlongStreets x = Told.line(3, "a2t9t3aT9T9T6a");
        check.due("27: missing", x.lays(0, 0, 0), -11);
        x.list(0, 27);
        x.put(0, 0, 7);
        x.put(0, 26, 8);
        check.due("27: from 3 on there is no room", x.lays(0, 3, 0), -13);
        check.due("27: none is laid", x.look(0, 3), 0);
        check.due("27: laid", x.lays(0, 1, 0), 25);
        check.due("27: before", x.look(0, 0), 7);
        check.due("27: least", x.look(0, 1), 1);
        check.due("27: CORNER 0", x.look(0, 13), 2);
        check.due("27: greatest", x.look(0, 25), 1);
        check.due("27: behind", x.look(0, 26), 8);
        check.due("27: no place", x.lays(0, -1, 0), -13);
        check.due("27: no place", x.lays(0, Integer.MAX_VALUE, 0), -13);
        check.due("27: no place", x.lays(0, Integer.MIN_VALUE, 0), -13);
        check.due("27: no LIST", x.lays(3, 0, 0), -1);
        check.due("27: no WALK", x.lays(1, 0, 1), -1);
        check.holds("27: REFUSALS", Told.refusals(x).equals("2 0 0 0 0 0"));
        LampsAlongStreets r = Told.ring(3, 2, "Ta");
        r.list(2, 4);
        check.due("27: RING", r.lays(2, 1, 0), 3);
        check.due("27: its last lamp", r.look(2, 3), 1);
        check.due("27: its first", r.look(2, 1), 0);
    }

    private static void from(Check check) {
        LampsAlongStreets x = Told.line(3);
        check.due("28: missing", x.from(0, 0), -11);
        x.list(0, 14);
        x.put(0, 0, 2);
        x.put(0, 13, 1);
        check.due("28: from", x.from(0, -5), 0);
        check.due("28: END", x.of(0, 0), -5);
        check.due("28: least", x.lamp(0, -12), 2);
        check.due("28: CORNER 1", x.lamp(0, 1), 1);
        check.due("28: no more", x.of(0, 1), 2);
        check.due("28: END is no CORNER", x.from(0, 13), -1);
        check.due("28: END is no CORNER", x.from(0, -13), -1);
        check.due("28: no LIST", x.from(3, 0), -1);
        x.put(0, 5, 3);
        check.due("28: out of range", x.from(0, 0), -3);
        x.put(0, 5, -1);
        check.due("28: out of range", x.from(0, 0), -3);
        x.list(1, 26);
        check.due("28: more than there are CORNERS", x.from(1, 0), -3);
        x.list(1, 25);
        check.due("28: as many", x.from(1, 12), 1);
        x.list(1, 0);
        for (int i = 2; i < 6; i++) {
            check.due("28: of none", x.from(1, 0), i);
        }
        check.due("28: six is ahead of missing", x.from(2, 0), -6);
        check.due("28: END is ahead of six", x.from(2, 13), -1);
        check.holds("28: REFUSALS", Told.refusals(x).equals("4 0 3 0 0 1"));
        LampsAlongStreets r = Told.ring(3, 2);
        r.list(0, 4);
        check.due("28: RING, too many, all 0", r.from(0, 0), -3);
        check.due("28: RING, END is no CORNER", r.from(0, 3), -1);
        check.due("28: RING, END is no CORNER", r.from(0, -1), -1);
        r.street(0, 0, 5);
        r.list(0, 25);
        r.put(0, 20, 1);
        r.from(0, 3);
        r.street(1, 5, 2);
        r.list(0, 1);
        check.due("28: nothing is left of a WALK that was there", r.from(0, 0), 0);
        check.due("28: BARE", r.of(0, 2), 0);
    }

    private static void judges(Check check) {
        LampsAlongStreets x = Told.ring(4, 3, "ata2tat");
        check.due("29: missing", x.judge(0, 0), -11);
        x.list(0, 4);
        check.due("29: the first", x.judge(0, 0), 0);
        x.put(0, 0, 1);
        check.due("29: the second", x.judge(0, 0), 1);
        x.put(0, 1, 2);
        x.put(0, 2, 1);
        check.due("29: all", x.judge(0, 0), -9);
        x.put(0, 3, Integer.MAX_VALUE);
        check.due("29: the last", x.judge(0, 0), 3);
        x.list(1, 5);
        x.lays(1, 0, 0);
        check.due("29: a CORNER that isn't there", x.judge(1, 0), 4);
        x.list(1, 1);
        x.put(1, 0, 1);
        check.due("29: fewer", x.judge(1, 0), -9);
        x.list(1, 0);
        check.due("29: none", x.judge(1, 0), -9);
        check.due("29: no LIST", x.judge(3, 0), -1);
        check.due("29: no WALK is ahead of missing", x.judge(2, 1), -1);
        check.holds("29: REFUSALS", Told.refusals(x).equals("2 0 0 0 0 0"));
        LampsAlongStreets line = Told.line(2, "T9T3a");
        line.list(0, 1);
        check.due("29: LINE, from -12 on", line.judge(0, 0), 0);
        line.put(0, 0, 1);
        check.due("29: LINE", line.judge(0, 0), -9);
    }
}
