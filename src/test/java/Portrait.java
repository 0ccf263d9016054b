/** All that a face tells of itself, part by part, so that two can be compared; asking may use it up. */
final class Portrait {
    static final int PARTS = 4;

    private Portrait() {
    }

    static String part(Face face, int part) {
        switch (part) {
            case 0: return standing(face);
            case 1: return lists(face);
            case 2: return letters(face);
            default: return image(face);
        }
    }

    /** How many refusals there were, -1 to -6. */
    static long[] refusals(Face face) {
        long[] many = new long[6];
        for (int i = 0; i < many.length; i++) {
            many[i] = face.call("count", 11 + i);
        }
        return many;
    }

    private static String standing(Face face) {
        StringBuilder text = new StringBuilder("counts");
        for (int what = 0; what <= 5; what++) {
            text.append(' ').append(face.call("count", what));
        }
        for (int walk = 0; walk < face.call("count", 3); walk++) {
            text.append(", walk ").append(walk(face, walk));
        }
        for (int helper = 0; helper < face.call("count", 4); helper++) {
            text.append(", helper ").append(face.call("helps", helper, 0));
            text.append(' ').append(face.call("helps", helper, 1));
        }
        return text.toString();
    }

    private static String walk(Face face, int walk) {
        StringBuilder text = new StringBuilder("to ").append(face.call("of", walk, 0));
        int least = face.call("count", 0) == 0 ? -12 : 0;
        for (int c = least; c < least + face.call("count", 1); c++) {
            text.append(' ').append(face.call("lamp", walk, c));
        }
        return text.toString();
    }

    private static String lists(Face face) {
        StringBuilder text = new StringBuilder();
        for (int list = 0; list <= 2; list++) {
            text.append("list");
            long shown = 0;
            for (int i = 0; i <= 40 && shown < Told.FAR_LONG; i++) {
                shown = face.call("look", list, i);
                text.append(' ').append(shown);
            }
        }
        return text.toString();
    }

    /** The letters show in the walk that they become; it needs room. */
    private static String letters(Face face) {
        if (face.call("count", 3) >= 6) {
            face.call("drop");
        }
        long walk = face.call("word");
        return walk < 0 ? "FAULT " + walk : "walk " + walk + " " + walk(face, (int) walk);
    }

    private static String image(Face face) {
        return "on " + face.call("on") + " " + standing(face);
    }
}
