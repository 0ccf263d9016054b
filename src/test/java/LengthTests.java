/** Promises 12 to 18: lengths, likes. */
final class LengthTests {
    private LengthTests() {
    }

    static void run(Check check) {
        distances(check);
        likes(check);
        sums(check);
        spheres(check);
        written(check);
        odds(check);
        lots(check);
    }

    private static void distances(Check check) {
        LampsAlongStreets x = Told.line(3, "t2a", "T2A", "t2a2", "t9t3aT9T9", "T9T3a");
        check.due("12: to itself", x.distance(0, 0), 0);
        check.due("12: two lamps, four steps", x.distance(0, 1), 6);
        check.due("12: the same back", x.distance(1, 0), 6);
        check.due("12: one turn", x.distance(0, 2), 1);
        check.due("12: beyond the last corners", x.distance(3, 4), 2 + 24 + 18);
        check.due("12: no WALK", x.distance(0, 5), -1);
        check.due("12: no WALK", x.distance(-1, 0), -1);
        check.holds("12: REFUSALS", Told.refusals(x).equals("2 0 0 0 0 0"));
        LampsAlongStreets r = Told.ring(8, 2, "t7a", "ta", "t3aT3");
        check.due("12: round", r.distance(0, 1), 4);
        check.due("12: with a way about", r.distance(1, 2), 2 + 2 + 3);
    }

    private static void likes(Check check) {
        LampsAlongStreets x = Told.line(3, "at3aT3", "T9aT3at9t3", "t3aT3a2", "t5T5", "aA", "at2");
        check.due("13: moved", x.like(0, 1), 1);
        check.due("13: moved, the other way", x.like(1, 0), 1);
        check.due("13: shows otherwise", x.like(0, 2), 0);
        check.due("13: BARE and BARE", x.like(3, 4), 1);
        check.due("13: BARE and another", x.like(3, 0), 0);
        check.due("13: another and BARE", x.like(0, 3), 0);
        check.due("13: other END", x.like(0, 5), 0);
        check.due("13: no WALK", x.like(0, 6), -1);
        check.due("13: no WALK", x.like(-1, 0), -1);
        check.holds("13: REFUSALS", Told.refusals(x).equals("2 0 0 0 0 0"));
        LampsAlongStreets s = Told.line(3, "at2", "tat", "t7aT5", "at2a2", "Aat2", "at2aT2aT2A2at4");
        check.due("13: SUMS moved round", s.like(0, 1), 1);
        check.due("13: SUMS of one far away", s.like(0, 2), 1);
        check.due("13: SUMS that are 0", s.like(3, 4), 1);
        check.due("13: SUMS 1 and SUMS 0", s.like(0, 4), 0);
        check.due("13: other SUMS", s.like(0, 5), 0);
        LampsAlongStreets minus = Told.line(3, "aT3", "taT4", "ta2T4");
        check.due("13: END below 0", minus.like(0, 1), 1);
        check.due("13: END below 0, otherwise", minus.like(0, 2), 0);
        LampsAlongStreets r = Told.ring(6, 5, "ata2t5", "t3ata2t2", "ta2tat4", "at3", "t2at", "a2t3");
        check.due("13: RING, END 0, moved round", r.like(0, 1), 1);
        check.due("13: RING, mirrored isn't moved", r.like(0, 2), 0);
        check.due("13: RING, SUMS", r.like(3, 4), 1);
        check.due("13: RING, other SUMS", r.like(3, 5), 0);
    }

    private static void sums(Check check) {
        LampsAlongStreets x = Told.line(5, "a2T4a4t8", "T4a4t4a2T3", "at2aT2");
        check.due("14: how many", x.sums(0, -1), 4);
        check.due("14: SUM 0", x.sums(0, 0), 1);
        check.due("14: SUM 1", x.sums(0, 1), 0);
        check.due("14: SUM 3", x.sums(0, 3), 0);
        check.due("14: not so many", x.sums(0, 4), -9);
        check.due("14: END below 0", x.sums(1, -1), 3);
        check.due("14: below 0, modulo 0 or more", x.sums(1, 2), 4);
        check.due("14: and 0", x.sums(1, 0), 2);
        check.due("14: END 0 on a LINE", x.sums(2, -1), 0);
        check.due("14: none there", x.sums(2, 0), -9);
        check.due("14: below", x.sums(2, -2), -4);
        check.due("14: no WALK", x.sums(3, -2), -1);
        check.due("14: far", x.sums(0, Integer.MAX_VALUE), -9);
        check.holds("14: REFUSALS", Told.refusals(x).equals("1 0 0 1 0 0"));
        LampsAlongStreets r = Told.ring(6, 4, "ata2tata2", "ata2tata2t", "atat4", "atatT2");
        check.due("14: RING, 3 and 6", r.sums(0, -1), 3);
        check.due("14: SUM 0", r.sums(0, 0), 3);
        check.due("14: SUM 1", r.sums(0, 1), 2);
        check.due("14: SUM 2", r.sums(0, 2), 1);
        check.due("14: not so many", r.sums(0, 3), -9);
        check.due("14: RING, 4 and 6", r.sums(1, -1), 2);
        check.due("14: SUM 1", r.sums(1, 1), 0);
        check.due("14: RING, 5 and 6", r.sums(2, -1), 1);
        check.due("14: all together", r.sums(2, 0), 2);
        check.due("14: RING, END 0", r.sums(3, -1), 6);
        check.due("14: SUM 1", r.sums(3, 1), 1);
        check.due("14: SUM 5", r.sums(3, 5), 0);
    }

    private static void spheres(Check check) {
        LampsAlongStreets x = Told.line(2);
        // a, t, T; at, aT, ta, Ta, tt, TT; ata and aTa, too, and so on: grown by hand up to 2, by the model behind.
        int[] due = {1, 3, 6, 12, 22, 40};
        for (int k = 0; k < due.length; k++) {
            check.due("15: SPHERE " + k + ", m 2", x.sphere(k), due[k]);
        }
        check.due("15: below", x.sphere(-1), -4);
        check.due("15: above", x.sphere(6), -6);
        check.holds("15: REFUSALS", Told.refusals(x).equals("0 0 0 1 0 1"));
        check.due("15: m 3, a and A", Told.line(3).sphere(1), 4);
        check.due("15: m 4, two turns alone", Told.line(4).sphere(2), 2 * 4 + 2 + 1);
        check.due("15: m 5, a2 and A2 are two", Told.line(5).sphere(2), 2 * 4 + 2 + 2);
        LampsAlongStreets r = Told.ring(3, 2);
        int all = 0;
        for (int k = 0; k <= 5; k++) {
            all += r.sphere(k);
        }
        // All 24 but the one with three steps and three turns.
        check.due("15: RING of 3", all, 23);
        check.due("15: RING of 4, tt and TT are one", Told.ring(4, 2).sphere(2), 5);
        check.due("15: no WALK comes of it", r.count(3), 0);
    }

    private static void written(Check check) {
        writtenEach(check, 3,
            "aA", "", "a", "a", "A", "A", "t2aT4a", "ttaTTTTa", "t2aT4at2", "TTattttaTT", "t3aT4at4", "Tatttta",
            "taT2at2", "Tatta", "Tata2", "ATat", "t4aT2aT5", "ttattaTTTTTTT", "aTat2at", "aTattat",
            "T3aT2at", "TTTaTTat", "T2at5", "TTattttt", "t5", "ttttt");
        writtenEach(check, 2, "a", "a", "tAT", "taT", "taT2at2T", "TattaT");
        writtenEach(check, 4, "a2", "aa", "a3", "A", "A2", "aa");
        writtenEach(check, 5, "a2", "aa", "a3", "AA", "a4", "A");
        LampsAlongStreets x = Told.line(3, "tAt");
        check.due("16: how many", x.written(0, -1), 3);
        check.due("16: t", x.written(0, 0), 116);
        check.due("16: A", x.written(0, 1), 65);
        check.due("16: t", x.written(0, 2), 116);
        check.due("16: not so many", x.written(0, 3), -9);
        check.due("16: far", x.written(0, Integer.MAX_VALUE), -9);
        check.due("16: below", x.written(0, -2), -4);
        check.due("16: no WALK", x.written(1, -2), -1);
        check.holds("16: REFUSALS", Told.refusals(x).equals("1 0 0 1 0 0"));
        LampsAlongStreets r = Told.ring(3, 3, "tAt");
        check.due("16: RING", r.written(0, 0), -3);
        check.due("16: RING", r.written(0, -1), -3);
        check.due("16: below is ahead of RING", r.written(0, -2), -4);
        check.due("16: nobody is ahead of all", r.written(1, -2), -1);
        longest(check);
    }

    /** Told words and what is due for them, in turn. */
    private static void writtenEach(Check check, int m, String... pairs) {
        for (int i = 0; i + 1 < pairs.length; i += 2) {
            LampsAlongStreets x = Told.line(m, pairs[i]);
            String got = Told.written(x, 0);
            check.holds("16: WRITTEN of " + pairs[i] + " is " + got, got.equals(pairs[i + 1]));
            check.due("16: LENGTH of " + pairs[i], x.of(0, 2), got.length());
        }
    }

    private static void longest(Check check) {
        LampsAlongStreets x = Told.line(4);
        x.list(0, 25);
        for (int i = 0; i < 25; i++) {
            x.put(0, i, 2);
        }
        x.from(0, 0);
        check.due("16: all LAMPS, and home", x.written(0, -1), 50 + 48);
        check.due("16: the last letter", x.written(0, 97), 'T');
        check.due("16: LENGTH", x.of(0, 2), 98);
    }

    private static void odds(Check check) {
        LampsAlongStreets x = Told.line(3, "aA", "atatatata", "a2");
        check.due("17: 0 above", x.odds(0, 0), 0);
        check.due("17: 1 below", x.odds(0, 1), 1);
        check.due("17: 5 of 25", x.odds(1, 0), 1);
        check.due("17: 5 of 25", x.odds(1, 1), 5);
        check.due("17: 1 of 25", x.odds(2, 0), 1);
        check.due("17: 1 of 25", x.odds(2, 1), 25);
        check.due("17: no WALK", x.odds(3, 2), Told.FAR_LONG + 1);
        check.due("17: no part", x.odds(0, 2), Told.FAR_LONG + 2);
        check.due("17: no part", x.odds(0, -1), Told.FAR_LONG + 2);
        check.holds("17: REFUSALS", Told.refusals(x).equals("1 2 0 0 0 0"));
        LampsAlongStreets r = Told.ring(8, 3, "atatatatata2T", "atatatatatatata");
        check.due("17: 6 of 8", r.odds(0, 0) * 10 + r.odds(0, 1), 34);
        check.due("17: 8 of 8", r.odds(1, 0) * 10 + r.odds(1, 1), 11);
    }

    private static void lots(Check check) {
        LampsAlongStreets x = Told.line(2);
        // From seed 0: 1013904223 gives 3960563 modulo 4: 3, T. The next is 1196435762: 4673577, 1: A.
        check.due("18: one letter", x.lots(1, 1, 0, 0), 1);
        check.due("18: T, A", x.lots(1, 2, 0, 0), 2);
        check.due("18: none is DEAD", x.lots(1, 2, 0, 1), 0);
        check.due("18: n below", x.lots(0, 1, 0, 0), -4);
        check.due("18: k below", x.lots(1, 0, 0, 0), -4);
        check.due("18: below is ahead of above", x.lots(31, 0, 0, 2), -4);
        check.due("18: n above", x.lots(31, 1, 0, 0), -6);
        check.due("18: k above", x.lots(1, 13, 0, 2), -6);
        check.due("18: what", x.lots(30, 12, 0, 2), -2);
        check.due("18: what", x.lots(1, 1, 0, -1), -2);
        check.holds("18: REFUSALS", Told.refusals(x).equals("0 2 0 3 0 2"));
        check.due("18: no WALK comes of it", x.count(3), 0);
        check.due("18: the seed's sign", x.lots(1, 1, Integer.MIN_VALUE, 0), 1);
    }
}
