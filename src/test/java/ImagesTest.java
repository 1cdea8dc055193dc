/** Promises 16 to 18: image, restore, count. */
public final class ImagesTest {
    public static void main(String[] args) {
        imageAndRestore();
        twoImages();
        emptyImage();
        count();
        Due.end();
    }

    private static void imageAndRestore() {
        MixedCells m = new MixedCells();
        for (int body = 0; body < 4; body++) {
            Build.fill(m, body, body, 1, 10, 5, body, 20);
        }
        Due.is("image(1)", m.image(1), 1);
        String kept = Build.state(m);
        m.put(0, 0, 1, 49);
        m.put(0, 9, 9, 9);
        m.take(1, 0);
        m.clear(2);
        m.clear(3);
        Build.fill(m, 3, 7, 7, 7, 8, 8, 8, 9, 9, 9);
        Due.holds("the image doesn't hold the bodies fast", !Build.state(m).equals(kept));
        Due.is("restore(0)", m.restore(0), -3);
        Due.is("restore(1)", m.restore(1), 1);
        Due.holds("all bodies are as they were", Build.state(m).equals(kept));
        m.clear(0);
        Due.is("put after restore", m.put(1, 3, 3, 3), 2);
        Due.is("restore(1) once more: the image stays", m.restore(1), 1);
        Due.holds("all bodies are as they were, once more", Build.state(m).equals(kept));
    }

    private static void twoImages() {
        MixedCells m = new MixedCells();
        m.put(0, 1, 1, 1);
        m.image(0);
        m.put(0, 2, 2, 2);
        m.image(1);
        Due.is("restore(0)", m.restore(0), 1);
        Due.is("count(0)", m.count(0), 1);
        Due.is("count(6): restoring leaves the images", m.count(6), 3);
        Due.is("restore(1)", m.restore(1), 1);
        Due.is("count(0)", m.count(0), 2);
        Due.is("image(0), in place of what was kept", m.image(0), 1);
        m.clear(0);
        Due.is("restore(0)", m.restore(0), 1);
        Due.is("count(0)", m.count(0), 2);
    }

    private static void emptyImage() {
        MixedCells m = new MixedCells();
        Due.is("image(0) of nothing", m.image(0), 1);
        m.put(2, 3, 3, 3);
        Due.is("restore(0) of nothing", m.restore(0), 1);
        Due.is("count(4)", m.count(4), 0);
    }

    private static void counts(MixedCells m, int... due) {
        for (int what = 0; what < due.length; what++) {
            Due.is("count(" + what + ")", m.count(what), due[what]);
        }
    }

    private static void count() {
        MixedCells m = new MixedCells();
        counts(m, 0, 0, 0, 0, 0, 0, 0);
        Build.fill(m, 1, 1, 1, 1);
        Build.fill(m, 3, 1, 1, 1, 2, 2, 2, 3, 3, 3);
        counts(m, 0, 1, 0, 3, 4, 10, 0);
        m.image(1);
        m.put(0, 1, 1, 1);
        m.take(1, 0);
        counts(m, 1, 0, 0, 3, 4, 9, 2);
        m.image(0);
        m.restore(1);
        counts(m, 0, 1, 0, 3, 4, 10, 3);
    }
}
