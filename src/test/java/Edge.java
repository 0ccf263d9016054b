/** A sentence of the document that names a boundary, and an object, made over and over, to try it on. */
final class Edge {
    interface Making {
        LampsAlongStreets make();
    }

    private final Check check;
    private final String sentence;
    private final Making making;

    Edge(Check check, String sentence, Making making) {
        this.check = check;
        this.sentence = sentence;
        this.making = making;
    }

    /** Just inside: the call answers that, and is no refusal. */
    Edge answers(long due, String name, int... given) {
        Face face = Face.of(making.make());
        String call = sentence + ": " + Face.told(name, given);
        check.due(call, face.call(name, given), due);
        counted(call, face, 0, 0);
        return this;
    }

    /** Just outside: the call answers the refusal, which is counted, and nothing else has changed. */
    Edge refuses(int refusal, String name, int... given) {
        return changesNothing(refusal, refusal, name, given);
    }

    /** As refuses, where the document says "Refused far"; odds and look answer longs. */
    Edge refusesFar(int refusal, String name, int... given) {
        boolean isLong = name.equals("odds") || name.equals("look");
        return changesNothing((isLong ? Told.FAR_LONG : Told.FAR) - refusal, refusal, name, given);
    }

    /** The call answers that, and nothing has changed, no count either. */
    Edge onlyTells(long due, String name, int... given) {
        return changesNothing(due, 0, name, given);
    }

    private Edge changesNothing(long due, int refusal, String name, int... given) {
        String call = sentence + ": " + Face.told(name, given);
        for (int part = 0; part < Portrait.PARTS; part++) {
            Face face = Face.of(making.make());
            // Refused once more for each part, so that each refusal is seen to count.
            for (int time = 0; time <= part; time++) {
                check.due(call, face.call(name, given), due);
            }
            counted(call, face, refusal, part + 1);
            String left = Portrait.part(face, part);
            String untouched = Portrait.part(Face.of(making.make()), part);
            check.holds(call + " changed " + untouched + " to " + left, left.equals(untouched));
        }
        return this;
    }

    /** Just the one refusal is counted so often; 0 is none. */
    private void counted(String call, Face face, int refusal, int often) {
        long[] before = Portrait.refusals(Face.of(making.make()));
        long[] after = Portrait.refusals(face);
        for (int i = 0; i < after.length; i++) {
            long due = before[i] + (i == -1 - refusal ? often : 0);
            check.due(call + ", REFUSALS " + (-1 - i), after[i], due);
        }
    }
}
