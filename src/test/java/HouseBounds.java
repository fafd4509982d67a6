/** Promises 1 to 8: the edges of what is told of a house. */
final class HouseBounds {
    private static final String FULL_HOUSE = "k5 4 3;c3 7 1 9;h0;h19;a0 1 0 9;a1 2 1 8;a2 3 2 7;a3 4 3 6;a4 1 4 0;";
    private static final int[] FAR = {-1, -2, -31, -32, -100, -1000000001, Integer.MIN_VALUE, Integer.MAX_VALUE,
        Integer.MAX_VALUE - 1, 1 << 30, 65536, 256};

    private HouseBounds() {
    }

    static void test() {
        constants();
        newObject();
        letters();
        textIsFull();
        textIsEmptied();
        textIsEmptiedWithAFault();
        allStartsAnew();
        aFaultLeavesAll();
        faultOfTheLatest();
        toldOutside();
        toldAtItsEdges();
        toldWhenFull();
        numbersAsTheyCome();
        callsOfAnObject();
        cellsThatThereAreNot();
        cellOutside();
        clothOfAHole();
        rowOfACell();
        clothsThatThereAreNot();
        clothOutside();
        actorsThatThereAreNot();
        actorOutside();
    }

    private static void constants() {
        Sentences.of(1, "NONE is -1.");
        Due.is("NONE", BaredCurtain.NONE, -1);
        Sentences.of(1, "They are far below all that is counted: -1000000001 and on.");
        Due.is("UNKNOWN", BaredCurtain.UNKNOWN, -1000000001);
        Due.is("OUTSIDE", BaredCurtain.OUTSIDE, -1000000002);
        Due.is("NOT", BaredCurtain.NOT, -1000000003);
        Due.is("FULL", BaredCurtain.FULL, -1000000004);
    }

    private static void newObject() {
        Sentences.of(1, "`BaredCurtain()`: No CURTAIN.");
        BaredCurtain x = new BaredCurtain();
        int[] told = {0, 0, 0, 0, 0, 0, 0, 0, 0, 100, 0, 0, 0};
        for (int what = 0; what < told.length; what++) {
            Due.is("told(" + what + ")", x.told(what), told[what]);
        }
        int[] untold = {10, 0, 5};
        for (int k = 0; k < 5; k++) {
            for (int what = 0; what < 3; what++) {
                Due.is("cloth(" + k + ", " + what + "), untold", x.cloth(k, what), untold[what]);
            }
        }
        Due.is("fault()", x.fault(), Due.NONE);
        Due.is("cell(0, 0)", x.cell(0, 0), Due.UNKNOWN);
        Due.is("actor(0, 0)", x.actor(0, 0), Due.UNKNOWN);
        Due.is("night(1)", x.night(1), Due.NOT);
        Due.is("drift(1)", x.drift(1), Due.NOT);
        Due.is("cut(0)", x.cut(0), Due.UNKNOWN);
        Due.is("go(0, 0)", x.go(0, 0), Due.UNKNOWN);
        Due.is("dress(0, 0, 0)", x.dress(0, 0, 0), Due.UNKNOWN);
        Due.is("stands(0, 1, -1)", x.stands(0, 1, -1), Due.UNKNOWN);
        Due.is("who(0)", x.who(0), 0);
        Due.is("who(20)", x.who(20), 0);
        Due.is("wholeBy()", x.wholeBy(), 0);
        Due.is("hidden()", x.hidden(), 0);
        Due.is("cannot()", x.cannot(), 0);
        Due.is("sewing(3)", x.sewing(3), 0);
        Due.is("least(4, 0)", x.least(4, 0), 0);
        Due.is("least(4, 1)", x.least(4, 1), Due.NONE);
        Due.is("moths()", x.moths(), 0);
        Due.is("see(0, true)", x.see(0, true), Due.UNKNOWN);
        Due.is("wasCut()", x.wasCut(), 0);
        Due.is("watch()", x.watch(), Due.NONE);
        Due.is("write(0, 0)", x.write(0, 0), Due.UNKNOWN);
        Due.is("tear()", x.tear(), 0);
        Due.is("judge()", x.judge(), Due.NONE);
        Due.is("goBack(0)", x.goBack(0), Due.NOT);
    }

    private static void letters() {
        Sentences.of(2, "One letter (a number 0 .. 255) comes behind THE TEXT: how many it has.");
        BaredCurtain x = new BaredCurtain();
        Due.is("feed(0)", x.feed(0), 1);
        Due.is("feed(255)", x.feed(255), 2);
        Due.is("feed(-1)", x.feed(-1), Due.OUTSIDE);
        Due.is("feed(256)", x.feed(256), Due.OUTSIDE);
        // By 256 more these would be letters again.
        Due.is("feed(256 + 'k')", x.feed(256 + 'k'), Due.OUTSIDE);
        Due.is("feed('k' - 256)", x.feed('k' - 256), Due.OUTSIDE);
        Due.is("feed(65536 + 'k')", x.feed(65536 + 'k'), Due.OUTSIDE);
        for (int far : FAR) {
            Due.is("feed(" + far + ")", x.feed(far), Due.OUTSIDE);
        }
        Due.is("told(3)", x.told(3), 2);
    }

    private static void textIsFull() {
        Sentences.of(2, "OUTSIDE, FULL (240).");
        BaredCurtain x = new BaredCurtain();
        for (int n = 1; n <= 240; n++) {
            Due.is("feed(32)", x.feed(' '), n);
        }
        Due.is("feed(107), the 241st", x.feed('k'), Due.FULL);
        Due.is("feed(107), once more", x.feed('k'), Due.FULL);
        Due.is("feed(256), full", x.feed(256), Due.OUTSIDE);
        Due.is("feed(-1), full", x.feed(-1), Due.OUTSIDE);
        Due.is("told(3)", x.told(3), 240);
        x.house();
        Due.is("told(3), taken", x.told(3), 0);
        Due.is("feed(107), room again", x.feed('k'), 1);
    }

    private static void textIsEmptied() {
        Sentences.of(3, "THE TEXT (it is empty then, with a FAULT, too) becomes THE HOUSE");
        BaredCurtain x = new BaredCurtain();
        Due.feed(x, FULL_HOUSE);
        Due.is("told(3)", x.told(3), FULL_HOUSE.length());
        Due.is("told(2), not yet", x.told(2), 0);
        Due.is("house()", x.house(), 5);
        Due.is("told(3)", x.told(3), 0);
        Due.feed(x, "k1 1 0;");
        Due.is("house(): nothing of the text before", x.house(), 0);
        Due.is("told(0)", x.told(0), 1);
    }

    private static void textIsEmptiedWithAFault() {
        Sentences.of(3, "it is empty then, with a FAULT, too");
        BaredCurtain x = new BaredCurtain();
        Due.feed(x, "k1 1 0;k");
        Due.is("house()", x.house(), -13);
        Due.is("told(3)", x.told(3), 0);
        Due.feed(x, "k1 1 0;");
        Due.is("house(): nothing of the text before", x.house(), 0);
        Due.is("fault()", x.fault(), Due.NONE);
    }

    /** A house with something of all that a new one takes away: 3 nights, a patch, one bared, images, undo. */
    private static BaredCurtain playedOn() {
        BaredCurtain x = Due.house("k2 2 1;h0;h1;a0 1 2 1;a1 1 2 0;");
        x.night(3);
        x.see(0, true);
        x.write(0, 0);
        x.seed(99);
        x.keep(0);
        x.keep(1);
        x.cut(3);
        return x;
    }

    private static void allStartsAnew() {
        Sentences.of(3, "(NIGHT 0, no PATCHES, nobody BARED; nothing SEEN, no BOOK; IMAGES, what could be undone are gone; THE SEED stays)");
        BaredCurtain x = playedOn();
        Due.is("told(4)", x.told(4), 3);
        Due.is("cell(0, 2)", x.cell(0, 2), 1);
        Due.is("told(7)", x.told(7), 3);
        Due.is("told(12)", x.told(12), 1);
        Due.feed(x, "k2 2 1;h0;h1;a0 1 2 1;a1 1 2 0;");
        Due.is("house()", x.house(), 2);
        Due.is("told(4)", x.told(4), 0);
        for (int c = 0; c < 4; c++) {
            Due.is("cell(" + c + ", 2)", x.cell(c, 2), 0);
            Due.is("cell(" + c + ", 0)", x.cell(c, 0), 1);
        }
        Due.is("told(5)", x.told(5), 3);
        Due.is("told(7)", x.told(7), 0);
        Due.is("actor(1, 4)", x.actor(1, 4), 0);
        Due.is("actor(0, 3)", x.actor(0, 3), 1);
        Due.is("told(10)", x.told(10), 0);
        Due.is("told(11)", x.told(11), 0);
        Due.is("told(12)", x.told(12), 0);
        Due.is("undo()", x.undo(), Due.NOT);
        Due.is("goBack(0)", x.goBack(0), Due.NOT);
        Due.is("goBack(1)", x.goBack(1), Due.NOT);
        Due.is("seed(0)", x.seed(0), 99);
    }

    private static void aFaultLeavesAll() {
        Sentences.of(3, "-10 less the number of its FAULT (all else is as it was)");
        String[] texts = {"k5 4 4;c1 1 1 1;a0 4 4 9;x", "k5 4 4;c1 1 1 1;a0 4 4 10;", "k5 4 4;h5;a0 4 4 9;k", "k5 4 4;h5;h5;"};
        for (int i = 0; i < texts.length; i++) {
            BaredCurtain x = playedOn();
            String before = Due.all(x);
            Due.feed(x, texts[i]);
            Due.refused(x, before, "house() of \"" + texts[i] + "\"", x.house(), -11 - i);
            Due.is("undo()", x.undo(), 0);
            Due.is("told(5)", x.told(5), 2);
            Due.is("goBack(0)", x.goBack(0), 1);
            Due.is("goBack(1)", x.goBack(1), 1);
            Due.is("seed(0)", x.seed(0), 99);
        }
    }

    private static void faultOfTheLatest() {
        Sentences.of(4, "The letter of the FAULT of the latest house(); NONE.");
        BaredCurtain x = new BaredCurtain();
        Due.is("fault(), no house() yet", x.fault(), Due.NONE);
        x.feed('x');
        Due.is("fault(), no house() yet", x.fault(), Due.NONE);
        x.house();
        Due.is("fault(), the first letter", x.fault(), 0);
        Due.feed(x, "k1 1 0;k");
        Due.is("fault(), still", x.fault(), 0);
        x.house();
        Due.is("fault(), the latest", x.fault(), 7);
        x.house();
        Due.is("fault(), an empty text has none", x.fault(), Due.NONE);
        for (int n = 0; n < 240; n++) {
            x.feed(n == 0 ? 'k' : ' ');
        }
        x.house();
        Due.is("fault(), the end of a full text", x.fault(), 240);
        Due.feed(x, "k1 1 0;");
        x.house();
        Due.is("fault(), none", x.fault(), Due.NONE);
    }

    private static void toldOutside() {
        Sentences.of(5, "12 how many can be undone. OUTSIDE.");
        BaredCurtain x = Due.house(FULL_HOUSE);
        Due.is("told(12)", x.told(12), 0);
        Due.is("told(13)", x.told(13), Due.OUTSIDE);
        for (int far : FAR) {
            Due.is("told(" + far + ")", x.told(far), Due.OUTSIDE);
            Due.is("told(" + far + "), no curtain", new BaredCurtain().told(far), Due.OUTSIDE);
        }
    }

    private static void toldAtItsEdges() {
        Sentences.of(5, "5 HOLES (a SET of CELLS), 6 who is SHOWN as it hangs now (a SET of ACTORS)");
        BaredCurtain x = Due.house("k5 4 0;a0 4 0 0;a1 4 0 0;a2 4 0 0;a3 4 0 0;a4 4 0 0;");
        Due.is("told(5), none", x.told(5), 0);
        Due.is("told(6), nobody", x.told(6), 0);
        for (int c = 0; c < 20; c++) {
            x.cut(c);
        }
        Due.is("told(5), all", x.told(5), 1048575);
        Due.is("told(6), all", x.told(6), 31);
        Due.is("told(8), nothing is left to fall", x.told(8), 0);
        Due.is("told(9)", x.told(9), 100);
        Sentences.of(5, "7 how often somebody was BARED");
        x.night(20);
        Due.is("told(7)", x.told(7), 100);
        Due.is("actor(4, 4)", x.actor(4, 4), 20);
    }

    private static void toldWhenFull() {
        Sentences.of(5, "10 what is SEEN, 11 entries of THE BOOK, 12 how many can be undone");
        BaredCurtain x = Due.house("k1 1 0;a0 1 0 0;");
        for (int i = 0; i < 25; i++) {
            Due.is("told(10)", x.told(10), Math.min(i, 6));
            Due.is("told(11)", x.told(11), Math.min(i, 15));
            Due.is("told(12)", x.told(12), Math.min(i, 20));
            x.see(0, true);
            x.write(0, 0);
            x.go(0, 0);
        }
        Sentences.of(5, "9 LEANS, and 100");
        Due.is("told(9), the least", Due.house("k4 4 0;c0 99 0 1;h0;h1;h4;h5;h8;h9;h12;h13;").told(9), 93);
        Due.is("told(9), the greatest", Due.house("k4 4 0;c0 99 0 1;h2;h3;h6;h7;h10;h11;h14;h15;").told(9), 107);
    }

    private static void numbersAsTheyCome() {
        Sentences.of(8, "What has a number has it from 0 on, as it comes.");
        BaredCurtain x = Due.house("k5 1 0;a4 1 0 0;a3 1 0 1;h0;a2 1 0 2;c0 1 1 1;a1 1 0 3;a0 1 0 4;");
        for (int a = 0; a < 5; a++) {
            Due.is("actor(" + a + ", 0)", x.actor(a, 0), 4 - a);
            Due.is("actor(" + a + ", 3)", x.actor(a, 3), a);
        }
        Due.is("told(6), bit 4 for the fifth", x.told(6), 16);
    }

    private static void callsOfAnObject() {
        Sentences.of(1, "An object is used for at most 512 calls after it has been made");
        BaredCurtain x = new BaredCurtain();
        for (int n = 1; n < 512; n++) {
            Due.is("seed(" + n + ")", x.seed(n), n - 1);
        }
        Due.is("seed(512), the 512th call", x.seed(512), 511);
    }

    private static void cellsThatThereAreNot() {
        Sentences.of(6, "3 the row in which it hangs, and 100. UNKNOWN, OUTSIDE.");
        BaredCurtain x = Due.house("k3 2 0;");
        for (int what = 0; what < 4; what++) {
            Due.is("cell(5, " + what + ")", x.cell(5, what), what == 3 ? 101 : 0);
            Due.is("cell(6, " + what + ")", x.cell(6, what), Due.UNKNOWN);
            Due.is("cell(-1, " + what + ")", x.cell(-1, what), Due.UNKNOWN);
        }
        for (int far : FAR) {
            Due.is("cell(" + far + ", 0)", x.cell(far, 0), Due.UNKNOWN);
            Due.is("cell(" + far + ", 4)", x.cell(far, 4), Due.UNKNOWN);
        }
        Due.is("cell(32, 1)", x.cell(32, 1), Due.UNKNOWN);
        Due.is("cell(19, 0)", Due.house(FULL_HOUSE).cell(19, 0), 3);
        Due.is("cell(20, 0)", Due.house(FULL_HOUSE).cell(20, 0), Due.UNKNOWN);
    }

    private static void cellOutside() {
        Sentences.of(6, "Of a CELL: what = 0 CLOTH");
        BaredCurtain x = Due.house("k3 2 0;");
        Due.is("cell(0, 4)", x.cell(0, 4), Due.OUTSIDE);
        for (int far : FAR) {
            Due.is("cell(0, " + far + ")", x.cell(0, far), Due.OUTSIDE);
            Due.is("cell(6, " + far + "), the first refusal", x.cell(6, far), Due.UNKNOWN);
        }
    }

    private static void clothOfAHole() {
        Sentences.of(6, "(of a HOLE: the one that was)");
        BaredCurtain x = Due.house("k1 2 3;h0;a0 1 4 1;");
        Due.is("cell(0, 0), a hole from the first", x.cell(0, 0), 3);
        x.cut(1);
        Due.is("cell(1, 0), cut", x.cell(1, 0), 3);
        x.night(1);
        Due.is("cell(0, 0), mended", x.cell(0, 0), 4);
        x.cut(0);
        Due.is("cell(0, 0), cut again", x.cell(0, 0), 4);
        Due.is("cell(0, 2), its patch is counted", x.cell(0, 2), 1);
    }

    /** All on the left weighs 99 and all on the right is cut away: LEANS is 792 / 100; then the other way. */
    private static void rowOfACell() {
        Sentences.of(6, "the row in which it hangs, and 100");
        BaredCurtain x = Due.house("k5 4 0;c0 99 0 1;h3;h4;h8;h9;h13;h14;h18;h19;");
        Due.is("cell(0, 3), the lowest", x.cell(0, 3), 93);
        Due.is("cell(19, 3), the highest", x.cell(19, 3), 110);
        Due.is("cell(17, 3), the middle", x.cell(17, 3), 103);
        x = Due.house("k5 4 0;c0 99 0 1;h0;h1;h5;h6;h10;h11;h15;h16;");
        Due.is("cell(4, 3), the lowest", x.cell(4, 3), 93);
        Due.is("cell(15, 3), the highest", x.cell(15, 3), 110);
        Due.is("cell(2, 3), the middle", x.cell(2, 3), 100);
    }

    private static void clothsThatThereAreNot() {
        Sentences.of(7, "Of a CLOTH: what = 0 V, 1 M, 2 S. UNKNOWN, OUTSIDE.");
        BaredCurtain x = Due.house(FULL_HOUSE);
        Due.is("cloth(0, 2)", x.cloth(0, 2), 5);
        Due.is("cloth(4, 0)", x.cloth(4, 0), 10);
        Due.is("cloth(5, 0)", x.cloth(5, 0), Due.UNKNOWN);
        for (int far : FAR) {
            Due.is("cloth(" + far + ", 0)", x.cloth(far, 0), Due.UNKNOWN);
            Due.is("cloth(" + far + ", 3)", x.cloth(far, 3), Due.UNKNOWN);
        }
    }

    private static void clothOutside() {
        Sentences.of(7, "what = 0 V, 1 M, 2 S.");
        BaredCurtain x = Due.house(FULL_HOUSE);
        Due.is("cloth(3, 0)", x.cloth(3, 0), 7);
        Due.is("cloth(3, 2)", x.cloth(3, 2), 9);
        Due.is("cloth(3, 3)", x.cloth(3, 3), Due.OUTSIDE);
        for (int far : FAR) {
            Due.is("cloth(4, " + far + ")", x.cloth(4, far), Due.OUTSIDE);
        }
    }

    private static void actorsThatThereAreNot() {
        Sentences.of(8, "4 how often he was BARED. UNKNOWN, OUTSIDE.");
        BaredCurtain x = Due.house(FULL_HOUSE);
        int[] last = {4, 1, 4, 0, 0};
        for (int what = 0; what < 5; what++) {
            Due.is("actor(4, " + what + ")", x.actor(4, what), last[what]);
            Due.is("actor(5, " + what + ")", x.actor(5, what), Due.UNKNOWN);
            Due.is("actor(0, " + what + "), none", Due.house("k1 1 0;").actor(0, what), Due.UNKNOWN);
        }
        for (int far : FAR) {
            Due.is("actor(" + far + ", 0)", x.actor(far, 0), Due.UNKNOWN);
            Due.is("actor(" + far + ", 5)", x.actor(far, 5), Due.UNKNOWN);
        }
        Due.is("actor(1, 0), one alone", Due.house("k1 1 0;a0 1 0 0;").actor(1, 0), Due.UNKNOWN);
    }

    private static void actorOutside() {
        Sentences.of(8, "Of an ACTOR: what = 0 COLUMN");
        BaredCurtain x = Due.house(FULL_HOUSE);
        Due.is("actor(0, 0)", x.actor(0, 0), 0);
        Due.is("actor(0, 5)", x.actor(0, 5), Due.OUTSIDE);
        for (int far : FAR) {
            Due.is("actor(0, " + far + ")", x.actor(0, far), Due.OUTSIDE);
        }
    }
}
