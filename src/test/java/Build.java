/** Objects in a state that several tests ask for, and what can be read of a state. */
final class Build {
    private Build() {
    }

    /** Puts points into a body, each as x, y, weight. */
    static void fill(MixedCells m, int body, int... triples) {
        for (int i = 0; i + 2 < triples.length; i += 3) {
            m.put(body, triples[i], triples[i + 1], triples[i + 2]);
        }
    }

    /** All that can be read of the bodies' points and of which images are kept. */
    static String state(MixedCells m) {
        StringBuilder text = new StringBuilder();
        for (int body = 0; body < 4; body++) {
            for (int k = 0; k < m.count(body); k++) {
                text.append(m.point(body, k, 0)).append(',').append(m.point(body, k, 1)).append(',')
                        .append(m.point(body, k, 2)).append(' ');
            }
            text.append('|');
        }
        return text.append(m.count(6)).toString();
    }
}
