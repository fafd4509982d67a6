/** Promises 30 to 32: the edges of THE SEED and of IMAGES. */
final class ImageBounds {
    private ImageBounds() {
    }

    static void test() {
        seeds();
        imagesThatThereAre();
        keepLeavesNothingToUndo();
        notKept();
        goBackLeavesNothingToUndo();
        allOfSectionTwo();
        imagesStay();
        seenStays();
        without();
    }

    private static void seeds() {
        Sentences.of(30, "THE SEED becomes v (0 .. 2147483647): what it was. OUTSIDE.");
        BaredCurtain x = new BaredCurtain();
        Due.is("seed(2147483647)", x.seed(2147483647), 0);
        Due.is("seed(-1)", x.seed(-1), Due.OUTSIDE);
        Due.is("seed(the least)", x.seed(Integer.MIN_VALUE), Due.OUTSIDE);
        Due.is("seed(1)", x.seed(1), 2147483647);
        Due.is("seed(0)", x.seed(0), 1);
        Due.is("seed(0)", x.seed(0), 0);
    }

    private static void imagesThatThereAre() {
        Sentences.of(31, "IMAGES 0, 1 keep all of section 2, THE SEED.");
        BaredCurtain x = Due.house("k1 1 0;");
        Due.is("keep(0)", x.keep(0), 1);
        Due.is("keep(1)", x.keep(1), 1);
        int[] none = {2, 3, 32, -1, -2, Integer.MIN_VALUE, Integer.MAX_VALUE};
        for (int i : none) {
            Due.is("keep(" + i + ")", x.keep(i), Due.UNKNOWN);
            Due.is("goBack(" + i + ")", x.goBack(i), Due.UNKNOWN);
        }
        Due.is("goBack(0)", x.goBack(0), 1);
        Due.is("goBack(1)", x.goBack(1), 1);
    }

    private static void keepLeavesNothingToUndo() {
        Sentences.of(31, "IMAGE i becomes what is so (nothing can be undone then): 1. UNKNOWN.");
        BaredCurtain x = Due.house("k2 1 0;");
        x.cut(0);
        Due.is("keep(2), refused", x.keep(2), Due.UNKNOWN);
        Due.is("told(12)", x.told(12), 1);
        Due.is("keep(0)", x.keep(0), 1);
        Due.is("told(12)", x.told(12), 0);
        Due.is("undo()", x.undo(), Due.NOT);
        Due.is("told(5), as it was", x.told(5), 1);
        x.cut(1);
        Due.is("keep(0), over what was kept", x.keep(0), 1);
        x.undo();
        x.night(1);
        x.goBack(0);
        Due.is("told(5)", x.told(5), 3);
        Due.is("told(4)", x.told(4), 0);
    }

    private static void notKept() {
        Sentences.of(32, "UNKNOWN, NOT: it was not kept.");
        BaredCurtain x = Due.house("k1 1 0;");
        Due.is("goBack(0)", x.goBack(0), Due.NOT);
        Due.is("goBack(1)", x.goBack(1), Due.NOT);
        x.keep(1);
        Due.is("goBack(0), the other one", x.goBack(0), Due.NOT);
        Due.is("goBack(1)", x.goBack(1), 1);
        Due.is("goBack(2), the first refusal", x.goBack(2), Due.UNKNOWN);
        x.cut(0);
        Due.is("goBack(0), refused", x.goBack(0), Due.NOT);
        Due.is("told(12), it leaves what can be undone", x.told(12), 1);
        Due.is("told(5)", x.told(5), 1);
        Due.feed(x, "k1 1 0;");
        x.house();
        Due.is("goBack(1), gone with the house", x.goBack(1), Due.NOT);
    }

    private static void goBackLeavesNothingToUndo() {
        Sentences.of(32, "What is so becomes IMAGE i (nothing can be undone then): 1.");
        BaredCurtain x = Due.house("k2 1 0;");
        x.keep(0);
        x.cut(0);
        x.cut(1);
        Due.is("told(12)", x.told(12), 2);
        Due.is("goBack(0)", x.goBack(0), 1);
        Due.is("told(12)", x.told(12), 0);
        Due.is("undo()", x.undo(), Due.NOT);
        Due.is("told(5)", x.told(5), 0);
    }

    private static void allOfSectionTwo() {
        Sentences.of(32, "keep all of section 2, THE SEED");
        BaredCurtain x = Due.house("k2 2 0;h0;h3;a0 1 1 2;a1 2 2 0;");
        x.night(2);
        x.go(0, 1);
        x.dress(1, 4, 9);
        x.seed(2147483647);
        x.keep(1);
        String kept = Due.all(x);
        x.cut(0);
        x.go(0, 0);
        x.dress(0, 3, 3);
        x.drift(20);
        x.seed(0);
        Due.is("goBack(1)", x.goBack(1), 1);
        Due.holds("it is not as it was kept", Due.all(x).equals(kept));
        Due.is("told(4)", x.told(4), 2);
        Due.is("told(7)", x.told(7), 2);
        Due.is("cell(0, 2)", x.cell(0, 2), 1);
        Due.is("actor(1, 4)", x.actor(1, 4), 2);
        Due.is("seed(0)", x.seed(0), 2147483647);
    }

    private static void imagesStay() {
        Sentences.of(32, "What is so becomes IMAGE i");
        BaredCurtain x = Due.house("k3 1 0;");
        x.keep(0);
        x.cut(0);
        x.keep(1);
        for (int i = 0; i < 3; i++) {
            x.cut(2);
            x.seed(5);
            Due.is("goBack(0)", x.goBack(0), 1);
            Due.is("told(5)", x.told(5), 0);
            Due.is("seed(5)", x.seed(5), 0);
            x.cut(1);
            Due.is("goBack(1)", x.goBack(1), 1);
            Due.is("told(5)", x.told(5), 1);
            Due.is("seed(5)", x.seed(5), 0);
        }
    }

    private static void seenStays() {
        Sentences.of(32, "keep all of section 2");
        BaredCurtain x = Due.house("k1 1 0;a0 1 0 3;");
        x.see(0, true);
        x.write(0, 4);
        x.keep(0);
        x.see(0, true);
        x.tear();
        x.see(0, false);
        x.feed('k');
        x.goBack(0);
        Due.is("told(10), what is seen is of section 3", x.told(10), 1);
        Due.is("wasCut()", x.wasCut(), 0);
        Due.is("told(11), the book too", x.told(11), 0);
        Due.is("told(3), and the text of none", x.told(3), 1);
    }

    private static void without() {
        Sentences.of(31, "IMAGE i becomes what is so");
        BaredCurtain x = new BaredCurtain();
        x.seed(6);
        Due.is("keep(0), no curtain", x.keep(0), 1);
        x.seed(7);
        Due.is("goBack(0)", x.goBack(0), 1);
        Due.is("seed(0)", x.seed(0), 6);
        Due.is("night(1)", x.night(1), Due.NOT);
    }
}
