/** All that can be asked of an object, as one text: by it two objects that had the same past are the same, or not. */
final class Twins {
    private Twins() {
    }

    /** An object with a bit of everything: two deeds, one ride, one image, one thing seen, a trace, a text. */
    static SwingCity busy() {
        SwingCity x = Due.city("sills 2;door 1 3 2;rope 0 1 2 1;rider 0 2 9;rider 1 1 30;");
        x.saw(0, 1);
        x.waits(1, 2);
        x.keep(0);
        x.rate(1, 0);
        x.go(0, 0);
        Due.type(x, "rope 0");
        return x;
    }

    /**
     * It ends what may be undone, and reads the text: the object is used up then.
     * No more is asked than an object is used for: 512 calls, those of its past, too.
     */
    static String all(SwingCity x) {
        StringBuilder told = new StringBuilder();
        look(x, told);
        for (int s = 0; s < 8 && x.fits(1, s, 0) >= 0; s++) {
            told.append(" fits ").append(x.fits(5, s, 0)).append(' ').append(x.fits(5, s, 1));
        }
        undoAll(x, told, true);
        for (int image = 0; image < 2; image++) {
            told.append(" back ").append(x.back(image));
            lookAtMoving(x, told);
            undoAll(x, told, false);
        }
        told.append(" city ").append(x.city());
        look(x, told);
        return told.toString();
    }

    private static void undoAll(SwingCity x, StringBuilder told, boolean byStep) {
        for (int i = 0, more = x.undo(); i < 10 && more >= 0; i++, more = x.undo()) {
            told.append(" undo ").append(more);
            if (byStep || more == 0) {
                lookAtMoving(x, told);
            }
        }
    }

    private static void look(SwingCity x, StringBuilder told) {
        for (int what = 0; what < 6; what++) {
            told.append(what == 0 ? " counts " : " ").append(x.count(what));
        }
        for (int s = 0; s < 8 && x.sill(s, 0) >= 0; s++) {
            told.append(" sill ").append(x.sill(s, 0)).append(' ').append(x.sill(s, 1));
        }
        for (int k = 0; k < 8 && x.rope(k, 0) >= 0; k++) {
            told.append(" rope ").append(x.rope(k, 0)).append(' ').append(x.rope(k, 1)).append(' ').append(x.rope(k, 2));
        }
        told.append(" trace ").append(x.trace());
        lookAtMoving(x, told);
    }

    private static void lookAtMoving(SwingCity x, StringBuilder told) {
        for (int k = 0; k < 8 && x.rope(k, 0) >= 0; k++) {
            told.append(" rope ").append(x.rope(k, 3)).append(' ').append(x.rope(k, 4));
        }
        for (int r = 0; r < 4 && x.rider(r, 0) >= 0; r++) {
            for (int what = 0; what < 5; what++) {
                told.append(what == 0 ? " rider " : " ").append(x.rider(r, what));
            }
        }
        told.append(" meets ").append(x.meets());
    }
}
