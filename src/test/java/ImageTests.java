/** Promises 30 to 32: the image, counts. */
final class ImageTests {
    private ImageTests() {
    }

    static void run(Check check) {
        images(check);
        counts(check);
    }

    private static void images(Check check) {
        LampsAlongStreets x = Told.ring(5, 3, "ta", "a2t3");
        check.due("31: no IMAGE", x.on(), -3);
        x.helper(4, 2);
        String one = Told.walk(x, 0);
        String other = Told.walk(x, 1);
        check.due("30: image", x.image(), 2);
        x.step(0, 0);
        x.step(0, 2);
        x.helper(0, 0);
        x.done(0, 1);
        x.drop();
        x.list(0, 2);
        x.put(0, 1, 5);
        Told.tell(x, "at");
        x.street(0, 0, 2);
        x.helper(1, 1);
        check.due("31: a refusal before", x.drop(), -3);
        check.due("31: on", x.on(), 2);
        check.due("31: SORT", x.count(0), 1);
        check.due("31: CORNERS", x.count(1), 5);
        check.due("31: m", x.count(2), 3);
        check.holds("31: first WALK", Told.walk(x, 0).equals(one));
        check.holds("31: second WALK", Told.walk(x, 1).equals(other));
        check.due("31: HELPERS", x.count(4), 1);
        check.due("31: the HELPER", x.helps(0, 0) * 10 + x.helps(0, 1), 42);
        check.due("31: letters stay", x.count(5), 2);
        check.due("31: LISTS stay", x.look(0, 1), 5);
        check.due("31: REFUSALS stay", x.count(13), 2);
        x.step(0, 3);
        x.drop();
        check.due("31: once more", x.on(), 2);
        check.holds("31: the IMAGE didn't change", Told.walk(x, 0).equals(one));
        x.drop();
        x.drop();
        check.due("30: a new one", x.image(), 0);
        x.helper(0, 0);
        Told.word(x, "a");
        check.due("31: from the new one", x.on(), 0);
        check.due("31: HELPERS as then", x.count(4), 1);
        LampsAlongStreets fresh = new LampsAlongStreets();
        check.due("30: of a new object", fresh.image(), 0);
        fresh.street(1, 3, 3);
        check.due("31: on to it", fresh.on(), 0);
        check.due("31: LINE again", fresh.count(1) * 10 + fresh.count(2), 252);
    }

    private static void counts(Check check) {
        LampsAlongStreets x = Told.ring(6, 4, "a", "t", "T");
        x.helper(0, 1);
        x.helper(0, 2);
        Told.tell(x, "attA");
        int[] due = {1, 6, 4, 3, 2, 4};
        for (int what = 0; what < due.length; what++) {
            check.due("32: count(" + what + ")", x.count(what), due[what]);
        }
        for (int i = 0; i < 5; i++) {
            x.letter(i < 2 ? -1 : 256);
        }
        x.on();
        x.step(0, 9);
        x.lamp(9, 0);
        x.of(9, 0);
        x.odds(9, 0);
        x.put(0, 0, 0);
        x.look(0, 0);
        x.list(0, -1);
        x.taken(0, 5);
        Told.word(x, "z");
        check.holds("32: REFUSALS", Told.refusals(x).equals("3 1 1 2 0 3"));
        int[] others = {Integer.MIN_VALUE, -1, 6, 10, 17, Integer.MAX_VALUE};
        for (int what : others) {
            check.due("32: count(" + what + ")", x.count(what), -9);
        }
        check.holds("32: -9 isn't counted", Told.refusals(x).equals("3 1 1 2 0 3"));
    }
}
