/** Promises 1 to 8: a new object, the text and its faults, what is told. */
public final class HouseTest {
    static final String THREE = "k3 3 0;c0 50 1 5;c1 90 4 20;c2 5 0 7;h1;h5;h6;a0 2 1 2;a1 1 2 1;a2 2 0 0;";
    private static final String ONE = "k1 1 0;";

    public static void main(String[] args) {
        newObject();
        feed();
        houseTakesTheText();
        houseStartsAnew();
        aFaultChangesNothing();
        anEmptyTextIsNoCurtain();
        textsWithoutAFault();
        cannotStand();
        wrongNumbers();
        toldTooOften();
        fault();
        told();
        leans();
        cell();
        cloth();
        actor();
        Due.end("HouseTest");
    }

    private static void newObject() {
        Due.in("promise 1");
        BaredCurtain x = new BaredCurtain();
        for (int what = 0; what <= 12; what++) {
            Due.is("told(" + what + ")", x.told(what), what == 9 ? 100 : 0);
        }
        Due.is("fault()", x.fault(), Due.NONE);
        Due.is("cell(0, 0)", x.cell(0, 0), Due.UNKNOWN);
        Due.is("actor(0, 0)", x.actor(0, 0), Due.UNKNOWN);
        Due.is("cut(0)", x.cut(0), Due.UNKNOWN);
        Due.is("go(0, 0)", x.go(0, 0), Due.UNKNOWN);
        Due.is("dress(0, 0, 0)", x.dress(0, 0, 0), Due.UNKNOWN);
        Due.is("night(1)", x.night(1), Due.NOT);
        Due.is("drift(1)", x.drift(1), Due.NOT);
        Due.is("undo()", x.undo(), Due.NOT);
        Due.is("who(20)", x.who(20), 0);
        Due.is("wholeBy()", x.wholeBy(), 0);
        Due.is("stands(0, 1, -1)", x.stands(0, 1, -1), Due.UNKNOWN);
        Due.is("see(0, true)", x.see(0, true), Due.UNKNOWN);
        Due.is("write(0, 0)", x.write(0, 0), Due.UNKNOWN);
        Due.is("tear()", x.tear(), 0);
        Due.is("goBack(0)", x.goBack(0), Due.NOT);
        Due.is("seed(0)", x.seed(0), 0);
        Due.is("NONE", BaredCurtain.NONE, -1);
        Due.is("UNKNOWN", BaredCurtain.UNKNOWN, -1000000001);
        Due.is("OUTSIDE", BaredCurtain.OUTSIDE, -1000000002);
        Due.is("NOT", BaredCurtain.NOT, -1000000003);
        Due.is("FULL", BaredCurtain.FULL, -1000000004);
    }

    private static void feed() {
        Due.in("promise 2");
        BaredCurtain x = new BaredCurtain();
        Due.is("feed(0)", x.feed(0), 1);
        Due.is("feed(255)", x.feed(255), 2);
        Due.is("feed(-1)", x.feed(-1), Due.OUTSIDE);
        Due.is("feed(256)", x.feed(256), Due.OUTSIDE);
        Due.is("feed(the least)", x.feed(Integer.MIN_VALUE), Due.OUTSIDE);
        Due.is("feed(the greatest)", x.feed(Integer.MAX_VALUE), Due.OUTSIDE);
        Due.is("told(3)", x.told(3), 2);
        for (int n = 3; n <= 240; n++) {
            Due.is("feed(32)", x.feed(32), n);
        }
        Due.is("feed(32), the 241st", x.feed(32), Due.FULL);
        Due.is("feed(256), full", x.feed(256), Due.OUTSIDE);
        Due.is("told(3)", x.told(3), 240);
        Due.is("house()", x.house(), -11);
        Due.is("feed(107)", x.feed(107), 1);
    }

    private static void houseTakesTheText() {
        Due.in("promise 3");
        BaredCurtain x = new BaredCurtain();
        Due.feed(x, THREE);
        Due.is("told(3)", x.told(3), THREE.length());
        Due.is("told(0), not taken", x.told(0), 0);
        Due.is("house()", x.house(), 3);
        Due.is("told(3)", x.told(3), 0);
        Due.is("told(0)", x.told(0), 3);
        Due.is("told(5)", x.told(5), 2 + 32 + 64);
        Due.feed(x, "k2 1 4;");
        Due.is("house() without actors", x.house(), 0);
        Due.is("told(0)", x.told(0), 2);
        Due.is("told(2)", x.told(2), 0);
        Due.is("told(5)", x.told(5), 0);
        Due.is("cell(1, 0)", x.cell(1, 0), 4);
        Due.is("cell(0, 2)", x.cell(0, 2), 0);
        Due.is("cloth(0, 0), untold again", x.cloth(0, 0), 10);
        Due.is("actor(0, 0)", x.actor(0, 0), Due.UNKNOWN);
    }

    private static void houseStartsAnew() {
        Due.in("promise 3, anew");
        BaredCurtain x = playedOn();
        Due.feed(x, THREE);
        Due.is("house()", x.house(), 3);
        Due.holds("it is not as new", Due.all(x).equals(Due.all(Due.house(THREE))));
        Due.is("undo()", x.undo(), Due.NOT);
        Due.is("goBack(0)", x.goBack(0), Due.NOT);
        Due.is("goBack(1)", x.goBack(1), Due.NOT);
        Due.is("seed(0), it stays", x.seed(0), 77);
    }

    private static void aFaultChangesNothing() {
        Due.in("promise 3, a fault");
        BaredCurtain x = playedOn();
        String before = Due.all(x);
        Due.feed(x, "k2 2 1;h0;a0 4 4 4;c0 1 1 1;k");
        Due.refused(x, before, "house()", x.house(), -13);
        Due.is("fault()", x.fault(), 28);
        Due.is("undo(), still there", x.undo(), 0);
        Due.is("goBack(1), still there", x.goBack(1), 1);
        Due.is("seed(0), it stays", x.seed(0), 77);
    }

    /** A house with something of all that a new one takes away. */
    private static BaredCurtain playedOn() {
        BaredCurtain x = Due.house(THREE);
        x.night(3);
        x.go(0, 2);
        x.see(1, true);
        x.write(1, 4);
        x.seed(77);
        x.keep(0);
        x.keep(1);
        x.dress(0, 3, 9);
        return x;
    }

    private static void anEmptyTextIsNoCurtain() {
        Due.in("promise 3, empty");
        BaredCurtain x = playedOn();
        Due.is("house()", x.house(), 0);
        Due.is("fault()", x.fault(), Due.NONE);
        Due.holds("it is not as new", Due.all(x).equals(Due.all(new BaredCurtain())));
        Due.is("night(1)", x.night(1), Due.NOT);
        Due.is("goBack(0)", x.goBack(0), Due.NOT);
    }

    private static void fine(String text, int actors) {
        BaredCurtain x = new BaredCurtain();
        Due.feed(x, text);
        Due.is("house() of \"" + text + "\"", x.house(), actors);
        Due.is("fault() of \"" + text + "\"", x.fault(), Due.NONE);
    }

    private static void faulty(String text, int kind, int at) {
        BaredCurtain x = new BaredCurtain();
        Due.feed(x, text);
        Due.is("house() of \"" + text + "\"", x.house(), -10 - kind);
        Due.is("fault() of \"" + text + "\"", x.fault(), at);
        Due.is("told(3) of \"" + text + "\"", x.told(3), 0);
    }

    private static void textsWithoutAFault() {
        Due.in("promise 3, no fault");
        fine(ONE, 0);
        fine("  k  1  1  0  ;  ", 0);
        fine("k001 001 000;", 0);
        fine("k5 4 4;", 0);
        fine("k1 1 0;c0 99 9 60;c4 0 0 1;c1 0 0 1;", 0);
        fine("k5 4 0;h19;h0;", 0);
        fine("k5 1 0;a4 4 4 9;a0 1 0 0;a 2 2 2 2 ;", 3);
        fine("k1 1 0;a0 1 0 0;h0;a0 1 0 0;c3 1 1 1;", 2);
    }

    private static void cannotStand() {
        Due.in("promise 3, fault 1");
        faulty("x", 1, 0);
        faulty("K1 1 0;", 1, 0);
        faulty(";", 1, 0);
        faulty("5", 1, 0);
        faulty("c0 0 0 1;", 1, 0);
        faulty("  h0;", 1, 2);
        faulty("a0 1 0 0;", 1, 0);
        faulty("k", 1, 1);
        faulty("k  ", 1, 3);
        faulty("k1 1 0", 1, 6);
        faulty("k1 1 0 ", 1, 7);
        faulty("k1 1;", 1, 4);
        faulty("k1 1 0 0;", 1, 7);
        faulty("k1 1 0 0000;", 1, 7);
        faulty("k1 1 k;", 1, 5);
        faulty("k1\t1 0;", 1, 2);
        faulty("k1" + (char) 255 + "1 0;", 1, 2);
        faulty("k1" + (char) 0 + "1 0;", 1, 2);
        faulty("k1 1 -1;", 1, 5);
        faulty(ONE + ";", 1, 7);
        faulty(ONE + "7", 1, 7);
        faulty(ONE + "x;k", 1, 7);
        faulty(ONE + "h", 1, 8);
        faulty(ONE + "h0x;", 1, 9);
        faulty(ONE + "h0 0;", 1, 10);
        faulty(ONE + "c0 0 0;", 1, 13);
        faulty(ONE + "c0 0 0 1", 1, 15);
        faulty(ONE + "a0 1 0;", 1, 13);
        faulty(ONE + "a0 1 0 0 a", 1, 16);
    }

    private static void wrongNumbers() {
        Due.in("promise 3, fault 2");
        faulty("k0 1 0;", 2, 1);
        faulty("k6 1 0;", 2, 1);
        faulty("k11 0;", 2, 1);
        faulty("k 6 9 9;", 2, 2);
        faulty("k0001 1 0;", 2, 1);
        faulty("k1 0 0;", 2, 3);
        faulty("k1 5 0;", 2, 3);
        faulty("k1 1 5;", 2, 5);
        faulty("k1 1 99999999999999999999;", 2, 5);
        faulty("k1 1 4294967296;", 2, 5);
        faulty(ONE + "c5 0 0 1;", 2, 8);
        faulty(ONE + "c0 100 0 1;", 2, 10);
        faulty(ONE + "c0 0 10 1;", 2, 12);
        faulty(ONE + "c0 0 0 0;", 2, 14);
        faulty(ONE + "c0 0 0 61;", 2, 14);
        faulty(ONE + "h1;", 2, 8);
        faulty(ONE + "h0000;", 2, 8);
        faulty(ONE + "h0;h0000;", 2, 11);
        faulty("k2 3 0;h5;h6;", 2, 11);
        faulty(ONE + "a1 1 0 0;", 2, 8);
        faulty("k2 3 0;a1 1 0 0;a2 1 0 0;", 2, 17);
        faulty(ONE + "a0 0 0 0;", 2, 10);
        faulty(ONE + "a0 5 0 0;", 2, 10);
        faulty(ONE + "a0 1 5 0;", 2, 12);
        faulty(ONE + "a0 1 0 10;", 2, 14);
    }

    private static void toldTooOften() {
        Due.in("promise 3, faults 3 and 4");
        faulty(ONE + "k", 3, 7);
        faulty(ONE + " k1 1 0;", 3, 8);
        String a = "a0 1 0 0;";
        fine(ONE + a + a + a + a + a, 5);
        faulty(ONE + a + a + a + a + a + "a", 3, 52);
        faulty(ONE + a + a + a + a + a + "  a9", 3, 54);
        faulty(ONE + "c0 0 0 1;c0 0 0 1;", 4, 17);
        faulty(ONE + "c0 0 0 1;c1 0 0 1;c 0", 4, 27);
        faulty(ONE + "h0;h0;", 4, 11);
        faulty("k2 1 0;h0;h1;h001;", 4, 14);
    }

    private static void fault() {
        Due.in("promise 4");
        BaredCurtain x = new BaredCurtain();
        Due.feed(x, "k9");
        Due.is("fault() ahead of house()", x.fault(), Due.NONE);
        Due.is("house()", x.house(), -12);
        Due.is("fault()", x.fault(), 1);
        Due.feed(x, ONE);
        Due.is("fault() of the latest house()", x.fault(), 1);
        Due.is("house()", x.house(), 0);
        Due.is("fault()", x.fault(), Due.NONE);
    }

    private static void told() {
        Due.in("promise 5");
        BaredCurtain x = Due.house(THREE);
        x.feed('k');
        x.night(2);
        x.see(0, true);
        x.see(0, true);
        x.write(0, 0);
        int[] due = {3, 3, 3, 1, 2, 96, 4, 2, 6, 100, 2, 1, 1};
        for (int what = 0; what < due.length; what++) {
            Due.is("told(" + what + ")", x.told(what), due[what]);
        }
        Due.is("told(-1)", x.told(-1), Due.OUTSIDE);
        Due.is("told(13)", x.told(13), Due.OUTSIDE);
        Due.is("told(the least)", x.told(Integer.MIN_VALUE), Due.OUTSIDE);
        Due.is("told(the greatest)", x.told(Integer.MAX_VALUE), Due.OUTSIDE);
    }

    private static void leans() {
        Due.in("promises 5 and 6, how it leans");
        BaredCurtain x = Due.house("k4 2 1;c1 99 3 7;h3;h7;a3 1 1 9;a3 2 1 9;a0 4 1 9;");
        Due.is("told(9): (396 - 198) / 100", x.told(9), 101);
        Due.is("told(8): 594 / 50", x.told(8), 11);
        Due.is("told(6): cell 3 hangs in row 1", x.told(6), 2);
        Due.is("cell(7, 3)", x.cell(7, 3), 102);
        Due.is("cell(0, 3), no hole", x.cell(0, 3), 99);
        Due.is("cell(6, 3), no hole", x.cell(6, 3), 102);
        x = Due.house("k2 4 0;c0 99 0 1;h0;h2;a0 1 0 0;a0 2 0 0;");
        Due.is("told(9): -198 / 100 cuts towards 0", x.told(9), 99);
        Due.is("cell(0, 3): left, higher", x.cell(0, 3), 101);
        Due.is("cell(1, 3): right, lower", x.cell(1, 3), 99);
        Due.is("told(6)", x.told(6), 2);
        x = Due.house("k2 1 0;c0 99 0 1;h0;a0 1 0 0;");
        Due.is("told(9): -99 / 100", x.told(9), 100);
        Due.is("told(6)", x.told(6), 1);
        x = Due.house("k2 1 0;c0 99 0 1;h1;");
        Due.is("told(9): 99 / 100", x.told(9), 100);
        x = Due.house("k2 2 0;c0 50 0 1;h1;h3;");
        Due.is("told(9): 100 / 100, a hole weighs nothing", x.told(9), 101);
        x = Due.house("k2 2 0;c0 50 0 1;h0;h2;");
        Due.is("told(9): -100 / 100", x.told(9), 99);
        x = Due.house("k5 4 0;c0 99 0 1;h3;h4;h8;h9;h13;h14;h18;h19;");
        Due.is("told(9): 792 / 100", x.told(9), 107);
        Due.is("cell(19, 3)", x.cell(19, 3), 110);
        Due.is("cell(0, 3)", x.cell(0, 3), 93);
        x = Due.house("k3 4 0;c0 99 0 1;h1;h2;h5;h8;h11;a1 1 0 0;a2 4 0 0;a2 3 0 0;");
        Due.is("told(9): the middle counts on neither side", x.told(9), 103);
        Due.is("cell(1, 3): the middle hangs as it is", x.cell(1, 3), 100);
        Due.is("cell(2, 3)", x.cell(2, 3), 103);
        Due.is("cell(0, 3)", x.cell(0, 3), 97);
        Due.is("told(6)", x.told(6), 1 + 2);
        x = Due.house("k1 4 0;c0 99 0 1;h0;");
        Due.is("told(9): one column is the middle", x.told(9), 100);
        Due.is("told(8): 297 / 50", x.told(8), 5);
    }

    private static void cell() {
        Due.in("promise 6");
        BaredCurtain x = Due.house(THREE);
        Due.is("cell(1, 0), a hole", x.cell(1, 0), 0);
        Due.is("cell(1, 1)", x.cell(1, 1), 1);
        Due.is("cell(0, 1)", x.cell(0, 1), 0);
        Due.is("cell(1, 2)", x.cell(1, 2), 0);
        Due.is("cell(8, 3)", x.cell(8, 3), 102);
        x.night(1);
        Due.is("cell(1, 0), mended", x.cell(1, 0), 2);
        Due.is("cell(1, 1), mended", x.cell(1, 1), 0);
        Due.is("cell(1, 2), mended", x.cell(1, 2), 1);
        x.cut(1);
        Due.is("cell(1, 0), the one that was", x.cell(1, 0), 2);
        Due.is("cell(1, 2), patches stay", x.cell(1, 2), 1);
        x.dress(1, 3, 1);
        x.night(1);
        Due.is("cell(1, 0), mended again", x.cell(1, 0), 3);
        Due.is("cell(1, 2), mended again", x.cell(1, 2), 2);
        Due.is("cell(9, 0)", x.cell(9, 0), Due.UNKNOWN);
        Due.is("cell(-1, 0)", x.cell(-1, 0), Due.UNKNOWN);
        Due.is("cell(9, 9)", x.cell(9, 9), Due.UNKNOWN);
        Due.is("cell(0, 4)", x.cell(0, 4), Due.OUTSIDE);
        Due.is("cell(0, -1)", x.cell(0, -1), Due.OUTSIDE);
        Due.is("cell(the greatest, 0)", x.cell(Integer.MAX_VALUE, 0), Due.UNKNOWN);
    }

    private static void cloth() {
        Due.in("promise 7");
        BaredCurtain x = Due.house(THREE + "c4 99 9 60;");
        int[][] due = {{50, 1, 5}, {90, 4, 20}, {5, 0, 7}, {10, 0, 5}, {99, 9, 60}};
        for (int k = 0; k < 5; k++) {
            for (int what = 0; what < 3; what++) {
                Due.is("cloth(" + k + ", " + what + ")", x.cloth(k, what), due[k][what]);
                Due.is("cloth without a curtain", new BaredCurtain().cloth(k, what), due[3][what]);
            }
        }
        Due.is("cloth(5, 0)", x.cloth(5, 0), Due.UNKNOWN);
        Due.is("cloth(-1, 0)", x.cloth(-1, 0), Due.UNKNOWN);
        Due.is("cloth(5, 3)", x.cloth(5, 3), Due.UNKNOWN);
        Due.is("cloth(4, 3)", x.cloth(4, 3), Due.OUTSIDE);
        Due.is("cloth(0, -1)", x.cloth(0, -1), Due.OUTSIDE);
    }

    private static void actor() {
        Due.in("promise 8");
        BaredCurtain x = Due.house(THREE);
        x.night(2);
        int[][] due = {{0, 2, 1, 2, 0}, {1, 1, 2, 0, 0}, {2, 2, 0, 0, 2}};
        for (int a = 0; a < 3; a++) {
            for (int what = 0; what < 5; what++) {
                Due.is("actor(" + a + ", " + what + ")", x.actor(a, what), due[a][what]);
            }
        }
        Due.is("actor(3, 0)", x.actor(3, 0), Due.UNKNOWN);
        Due.is("actor(-1, 0)", x.actor(-1, 0), Due.UNKNOWN);
        Due.is("actor(3, 5)", x.actor(3, 5), Due.UNKNOWN);
        Due.is("actor(2, 5)", x.actor(2, 5), Due.OUTSIDE);
        Due.is("actor(2, -1)", x.actor(2, -1), Due.OUTSIDE);
    }
}
