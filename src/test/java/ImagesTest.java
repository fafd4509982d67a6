/** Promises 30 to 32: the seed, images. */
public final class ImagesTest {
    public static void main(String[] args) {
        seed();
        keep();
        goBack();
        twoImages();
        withoutACurtain();
        Due.end("ImagesTest");
    }

    private static void seed() {
        Due.in("promise 30");
        BaredCurtain x = new BaredCurtain();
        Due.is("seed(2147483647)", x.seed(2147483647), 0);
        Due.is("seed(-1)", x.seed(-1), Due.OUTSIDE);
        Due.is("seed(the least)", x.seed(Integer.MIN_VALUE), Due.OUTSIDE);
        Due.is("seed(0)", x.seed(0), 2147483647);
        Due.is("seed(5)", x.seed(5), 0);
        Due.is("told(12)", x.told(12), 0);
        Due.is("seed(5)", x.seed(5), 5);
    }

    private static void keep() {
        Due.in("promise 31");
        BaredCurtain x = Due.house(HouseTest.THREE);
        x.night(1);
        x.cut(0);
        String before = Due.all(x);
        Due.refused(x, before, "keep(2)", x.keep(2), Due.UNKNOWN);
        Due.refused(x, before, "keep(-1)", x.keep(-1), Due.UNKNOWN);
        Due.is("told(12)", x.told(12), 2);
        Due.is("keep(1)", x.keep(1), 1);
        Due.is("told(12)", x.told(12), 0);
        Due.is("undo()", x.undo(), Due.NOT);
        Due.is("told(4)", x.told(4), 1);
        Due.is("goBack(0), the other one", x.goBack(0), Due.NOT);
        x.night(1);
        Due.is("keep(1) again", x.keep(1), 1);
        x.night(1);
        x.goBack(1);
        Due.is("told(4), the latest keep", x.told(4), 2);
    }

    private static void goBack() {
        Due.in("promise 32");
        BaredCurtain x = Due.house(HouseTest.THREE);
        x.seed(7);
        x.drift(3);
        x.dress(0, 4, 9);
        x.keep(0);
        String kept = Due.all(x);
        int seed = x.seed(0);
        x.seed(seed);
        x.keep(0);
        x.drift(20);
        x.go(0, 2);
        x.go(1, 0);
        x.dress(2, 3, 3);
        x.cut(8);
        x.night(2);
        String before = Due.all(x);
        Due.refused(x, before, "goBack(2)", x.goBack(2), Due.UNKNOWN);
        Due.refused(x, before, "goBack(-1)", x.goBack(-1), Due.UNKNOWN);
        Due.refused(x, before, "goBack(1)", x.goBack(1), Due.NOT);
        Due.is("goBack(0)", x.goBack(0), 1);
        Due.holds("it is not as it was kept", Due.all(x).equals(kept));
        Due.is("seed(1)", x.seed(1), seed);
        Due.is("undo()", x.undo(), Due.NOT);
        x.night(9);
        Due.is("goBack(0) again", x.goBack(0), 1);
        Due.holds("it is not as it was kept", Due.all(x).equals(kept));
        x.see(0, true);
        x.write(0, 0);
        x.goBack(0);
        Due.is("told(10): what is seen stays", x.told(10), 1);
        Due.is("told(11): the book stays", x.told(11), 1);
    }

    private static void twoImages() {
        Due.in("promises 31 and 32, two images");
        BaredCurtain x = Due.house("k2 1 0;a0 1 0 1;");
        x.seed(10);
        x.keep(0);
        x.go(0, 1);
        x.seed(11);
        x.keep(1);
        x.dress(0, 2, 5);
        Due.is("goBack(0)", x.goBack(0), 1);
        Due.is("actor(0, 0)", x.actor(0, 0), 0);
        Due.is("actor(0, 3)", x.actor(0, 3), 1);
        Due.is("seed(0)", x.seed(0), 10);
        Due.is("goBack(1)", x.goBack(1), 1);
        Due.is("actor(0, 0)", x.actor(0, 0), 1);
        Due.is("actor(0, 3)", x.actor(0, 3), 1);
        Due.is("seed(0)", x.seed(0), 11);
        Due.feed(x, "k1 1 0;");
        Due.is("house()", x.house(), 0);
        Due.is("goBack(0), gone with the house", x.goBack(0), Due.NOT);
        Due.is("goBack(1), gone with the house", x.goBack(1), Due.NOT);
    }

    private static void withoutACurtain() {
        Due.in("promises 31 and 32, no curtain");
        BaredCurtain x = new BaredCurtain();
        Due.is("goBack(1)", x.goBack(1), Due.NOT);
        x.seed(3);
        Due.is("keep(1)", x.keep(1), 1);
        x.seed(4);
        Due.is("goBack(1)", x.goBack(1), 1);
        Due.is("seed(0)", x.seed(0), 3);
        Due.is("told(0)", x.told(0), 0);
    }
}
