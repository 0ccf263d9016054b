import java.util.Arrays;

/** What a WALK shows, apart from any object: so it can be laid into a new one, and compared. */
final class Shown {
    final int[] lamps;
    final int end;

    Shown(int[] lamps, int end) {
        this.lamps = lamps;
        this.end = end;
    }

    static Shown bare(int corners) {
        return new Shown(new int[corners], 0);
    }

    static Shown of(LampsAlongStreets x, int walk) {
        int least = x.count(0) == 0 ? -12 : 0;
        int[] lamps = new int[x.count(1)];
        for (int place = 0; place < lamps.length; place++) {
            lamps[place] = x.lamp(walk, least + place);
        }
        return new Shown(lamps, x.of(walk, 0));
    }

    /** A new object of that street with those WALKS, numbered as they are told. */
    static LampsAlongStreets on(int[] street, Shown... walks) {
        LampsAlongStreets x = new LampsAlongStreets();
        x.street(street[0], street[1], street[2]);
        for (int number = 0; number < walks.length; number++) {
            x.list(2, walks[number].lamps.length);
            for (int place = 0; place < walks[number].lamps.length; place++) {
                x.put(2, place, walks[number].lamps[place]);
            }
            if (x.from(2, walks[number].end) != number) {
                throw new IllegalStateException("no such walk: " + walks[number].told());
            }
        }
        return x;
    }

    boolean isBare() {
        return same(bare(lamps.length));
    }

    boolean same(Shown other) {
        return end == other.end && Arrays.equals(lamps, other.lamps);
    }

    String told() {
        return Arrays.toString(lamps) + ", END " + end;
    }
}
