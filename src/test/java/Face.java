/** Whoever answers calls by their names: an object of the program, or the model. */
interface Face {
    long call(String name, int... given);

    static Face of(LampsAlongStreets x) {
        return (name, given) -> FaceTests.call(x, name, given);
    }

    /** A call as one writes it. */
    static String told(String name, int... given) {
        StringBuilder text = new StringBuilder(name + "(");
        for (int place = 0; place < given.length; place++) {
            text.append(place > 0 ? ", " : "").append(given[place]);
        }
        return text.append(")").toString();
    }
}
