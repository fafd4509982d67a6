/** Section 2: the edges of how it hangs, who is SHOWN, what a NIGHT mends. */
final class NightBounds {
    private NightBounds() {
    }

    static void test() {
        leansCutTowardsNought();
        leansWithoutHoles();
        leansWithoutTheMiddle();
        leftHangsLower();
        rightHangsHigher();
        theMiddleHangsAsItIs();
        shownFromTheFloor();
        shownToHisHeight();
        shownInHisColumn();
        allAtOnce();
        actorByActor();
        theLeastCell();
        thatThereStillIs();
        oneLess();
        bared();
        nightsAreCounted();
        late();
        holesWhereThereAreNone();
    }

    private static void leans(String text, int due) {
        Due.is("told(9) of \"" + text + "\"", Due.house(text).told(9), 100 + due);
    }

    private static void leansCutTowardsNought() {
        Sentences.of(5, "/ cuts towards 0.");
        leans("k2 1 0;c0 99 0 1;h1;", 0);
        leans("k2 1 0;c0 99 0 1;h0;", 0);
        leans("k2 2 0;c0 50 0 1;h1;h3;", 1);
        leans("k2 2 0;c0 50 0 1;h0;h2;", -1);
        leans("k2 3 0;c0 33 0 1;h1;h3;h5;", 0);
        leans("k2 3 0;c0 33 0 1;h0;h2;h4;", 0);
        leans("k2 2 0;c0 99 0 1;h1;h3;", 1);
        leans("k2 2 0;c0 99 0 1;h0;h2;", -1);
        leans("k2 4 0;c0 50 0 1;h1;h3;h5;h7;", 2);
        leans("k2 4 0;c0 50 0 1;h0;h2;h4;h6;", -2);
        leans("k2 4 0;c0 49 0 1;h1;h3;h5;h7;", 1);
        leans("k2 4 0;c0 49 0 1;h0;h2;h4;h6;", -1);
        leans("k2 4 0;c0 0 0 1;h0;h2;h4;h6;", 0);
    }

    private static void leansWithoutHoles() {
        Sentences.of(5, "LEANS is the weight of all CELLS (not HOLES) left of the middle, less that of those right of it");
        leans("k2 4 0;c0 99 0 1;", 0);
        leans("k4 4 0;c0 99 0 1;h2;h3;h6;h7;h10;h11;h14;h15;", 7);
        leans("k4 4 0;c0 99 0 1;h0;h1;h4;h5;h8;h9;h12;h13;", -7);
        leans("k2 2 0;c0 99 0 1;h0;h1;h2;h3;", 0);
        leans("k4 1 0;c0 99 0 1;h1;h3;", 0);
        leans("k4 1 0;c0 99 0 1;h2;h3;", 1);
    }

    private static void leansWithoutTheMiddle() {
        Sentences.of(5, "(a middle COLUMN of neither)");
        leans("k1 4 0;c0 99 0 1;", 0);
        leans("k1 4 0;c0 99 0 1;h0;h1;h2;h3;", 0);
        leans("k3 4 0;c0 99 0 1;h1;h4;h7;h10;", 0);
        leans("k5 4 0;c0 99 0 1;h2;h7;h12;h17;", 0);
        leans("k3 2 0;c0 99 0 1;h2;h5;h1;h4;", 1);
        leans("k5 1 0;c0 99 0 1;h3;h4;h2;", 1);
        leans("k5 1 0;c0 99 0 1;h0;h1;h2;", -1);
    }

    /** One hole on the left, three on the right: LEANS is (3 - 1) * 99 / 100; and the other way. */
    private static void leftHangsLower() {
        Sentences.of(6, "A HOLE in row g of a COLUMN left of the middle hangs LEANS rows lower (higher, if that is below 0)");
        BaredCurtain x = Due.house("k2 4 0;c0 99 0 1;h0;h1;h3;h5;");
        Due.is("told(9)", x.told(9), 101);
        Due.is("cell(0, 3)", x.cell(0, 3), 99);
        Due.is("cell(6, 3)", x.cell(6, 3), 102);
        x = Due.house("k2 4 0;c0 99 0 1;h1;h0;h2;h4;");
        Due.is("told(9)", x.told(9), 99);
        Due.is("cell(0, 3)", x.cell(0, 3), 101);
        Due.is("cell(6, 3)", x.cell(6, 3), 104);
    }

    private static void rightHangsHigher() {
        Sentences.of(6, "right of it as many higher");
        BaredCurtain x = Due.house("k2 4 0;c0 99 0 1;h0;h1;h3;h5;");
        Due.is("cell(1, 3)", x.cell(1, 3), 101);
        Due.is("cell(7, 3)", x.cell(7, 3), 104);
        x = Due.house("k2 4 0;c0 99 0 1;h1;h0;h2;h4;");
        Due.is("cell(1, 3)", x.cell(1, 3), 99);
        Due.is("cell(7, 3)", x.cell(7, 3), 102);
    }

    private static void theMiddleHangsAsItIs() {
        Sentences.of(6, "in a middle COLUMN as it is");
        BaredCurtain x = Due.house("k3 4 0;c0 99 0 1;h1;h10;h2;h5;h8;h11;a1 1 0 0;");
        Due.is("told(9)", x.told(9), 103);
        Due.is("cell(1, 3)", x.cell(1, 3), 100);
        Due.is("cell(10, 3)", x.cell(10, 3), 103);
        Due.is("told(6)", x.told(6), 1);
        x = Due.house("k1 4 0;c0 99 0 1;h3;a0 3 0 0;a0 4 0 0;");
        Due.is("cell(3, 3), the one column", x.cell(3, 3), 103);
        Due.is("told(6)", x.told(6), 2);
        x = Due.house("k4 1 0;c0 99 0 1;h2;h3;");
        Due.is("cell(1, 3), four have no middle", x.cell(1, 3), 99);
        Due.is("cell(2, 3), four have no middle", x.cell(2, 3), 101);
    }

    private static void shown(String text, int due) {
        Due.is("told(6) of \"" + text + "\"", Due.house(text).told(6), due);
    }

    private static void shownFromTheFloor() {
        Sentences.of(5, "An ACTOR is SHOWN, if some HOLE of his COLUMN hangs in a row 0 to T less 1.");
        shown("k2 4 0;c0 99 0 1;h0;h1;h3;h5;a0 4 0 0;", 0);
        shown("k2 4 0;c0 99 0 1;h2;h1;h3;h5;a0 1 0 0;", 1);
        shown("k2 4 0;c0 99 0 1;h4;h1;h3;h5;a0 1 0 0;a0 2 0 0;", 2);
        shown("k2 4 0;c0 99 0 1;h1;h0;h2;h4;a1 4 0 0;", 0);
        shown("k2 4 0;c0 99 0 1;h3;h0;h2;h4;a1 1 0 0;", 1);
    }

    private static void shownToHisHeight() {
        Sentences.of(9, "hangs in a row 0 to T less 1.");
        for (int row = 0; row < 4; row++) {
            shown("k1 4 0;h" + row + ";a0 1 0 0;a0 2 0 0;a0 3 0 0;a0 4 0 0;", 15 & (-1 << row));
        }
        shown("k4 4 0;c0 99 0 1;h14;h15;a2 4 0 0;a3 4 0 0;", 0);
        shown("k4 4 0;c0 99 0 1;h10;h11;a2 4 0 0;a3 3 0 0;", 1);
        shown("k4 4 0;c0 99 0 1;h12;h13;a0 4 0 0;a1 4 0 0;", 0);
        shown("k4 4 0;c0 99 0 1;h8;h9;a0 4 0 0;a1 3 0 0;", 1);
    }

    private static void shownInHisColumn() {
        Sentences.of(9, "if some HOLE of his COLUMN hangs");
        shown("k5 1 0;h0;a0 4 0 0;a1 4 0 0;a2 4 0 0;a3 4 0 0;a4 4 0 0;", 1);
        shown("k5 1 0;h4;a0 4 0 0;a1 4 0 0;a2 4 0 0;a3 4 0 0;a4 4 0 0;", 16);
        shown("k5 1 0;a0 4 0 0;a1 4 0 0;a2 4 0 0;a3 4 0 0;a4 4 0 0;", 0);
        shown("k1 4 0;h3;h1;a0 1 0 0;a0 2 0 0;", 2);
    }

    /** The first one's patch makes LEANS 0, by which the second one would be shown: not in this night. */
    private static void allAtOnce() {
        Sentences.of(9, "who is SHOWN (all at once, as it hangs then) mends");
        BaredCurtain x = Due.house("k2 3 0;c0 60 0 1;c1 40 0 1;h0;h1;h3;h5;a1 2 1 1;a0 1 1 1;");
        Due.is("told(9): 120 / 100", x.told(9), 101);
        Due.is("night(1)", x.night(1), 1);
        Due.is("told(9): 80 / 100", x.told(9), 100);
        Due.is("actor(1, 3), he has not mended", x.actor(1, 3), 1);
        Due.is("night(1)", x.night(1), 3);
        Due.is("actor(1, 3)", x.actor(1, 3), 0);
        Due.is("cell(0, 0)", x.cell(0, 0), 1);
    }

    private static void actorByActor() {
        Sentences.of(9, "mends, ACTOR by ACTOR");
        BaredCurtain x = Due.house("k1 4 0;h0;h1;h2;h3;a0 4 1 1;a0 3 2 1;a0 2 3 1;a0 1 4 1;a0 4 0 0;");
        Due.is("night(1)", x.night(1), 31);
        for (int c = 0; c < 4; c++) {
            Due.is("cell(" + c + ", 0)", x.cell(c, 0), c + 1);
        }
        Due.is("told(5)", x.told(5), 0);
        Due.is("actor(4, 4)", x.actor(4, 4), 1);
    }

    /** Cell 0 hangs in row -1, where nobody is shown by it; it is mended first all the same. */
    private static void theLeastCell() {
        Sentences.of(9, "the least CELL with a HOLE in his COLUMN");
        BaredCurtain x = Due.house("k2 4 0;c0 99 0 1;h0;h2;h1;h3;h5;h7;a0 1 1 2;");
        Due.is("told(9): (2 - 0) * 99 / 100", x.told(9), 101);
        Due.is("night(1), shown by cell 2", x.night(1), 1);
        Due.is("cell(0, 0)", x.cell(0, 0), 1);
        Due.is("cell(0, 1)", x.cell(0, 1), 0);
        Due.is("cell(2, 1)", x.cell(2, 1), 1);
        x = Due.house("k5 4 0;h19;h4;h0;a4 4 1 2;");
        x.night(1);
        Due.is("told(5), cell 0 is not his", x.told(5), 1 + (1 << 19));
    }

    private static void thatThereStillIs() {
        Sentences.of(9, "that there still is gets a piece of what he has on");
        BaredCurtain x = Due.house("k1 1 0;h0;a0 1 1 9;a0 1 2 9;a0 1 3 0;");
        Due.is("night(1)", x.night(1), 7);
        Due.is("cell(0, 0)", x.cell(0, 0), 1);
        Due.is("cell(0, 2)", x.cell(0, 2), 1);
        Due.is("actor(0, 3)", x.actor(0, 3), 8);
        Due.is("actor(1, 3), nothing was left to mend", x.actor(1, 3), 9);
        Due.is("actor(1, 4)", x.actor(1, 4), 0);
        Due.is("actor(2, 4), he was shown with none on", x.actor(2, 4), 1);
    }

    private static void oneLess() {
        Sentences.of(9, "(he has one less; that CELL is of his CLOTH then; its PATCHES 1 more)");
        BaredCurtain x = Due.house("k1 1 0;h0;a0 1 4 9;");
        for (int n = 1; n <= 9; n++) {
            Due.is("night(1)", x.night(1), 1);
            Due.is("actor(0, 3)", x.actor(0, 3), 9 - n);
            Due.is("cell(0, 2)", x.cell(0, 2), n);
            Due.is("cell(0, 0)", x.cell(0, 0), 4);
            x.cut(0);
        }
        Due.is("night(1), the last piece is gone", x.night(1), 1);
        Due.is("actor(0, 3)", x.actor(0, 3), 0);
        Due.is("actor(0, 4)", x.actor(0, 4), 1);
        Due.is("cell(0, 2)", x.cell(0, 2), 9);
        Due.is("told(5)", x.told(5), 1);
    }

    private static void bared() {
        Sentences.of(9, "who has none on is BARED (that is counted; nothing is mended)");
        BaredCurtain x = Due.house("k1 1 0;h0;a0 1 2 0;");
        for (int n = 1; n <= 3; n++) {
            Due.is("night(1)", x.night(1), 1);
            Due.is("actor(0, 4)", x.actor(0, 4), n);
            Due.is("told(7)", x.told(7), n);
            Due.is("told(5)", x.told(5), 1);
            Due.is("cell(0, 2)", x.cell(0, 2), 0);
            Due.is("cell(0, 0)", x.cell(0, 0), 0);
            Due.is("actor(0, 3)", x.actor(0, 3), 0);
        }
        x = Due.house("k2 1 0;h0;a1 1 2 0;");
        Due.is("night(20), nobody behind the hole", x.night(20), 0);
        Due.is("told(7)", x.told(7), 0);
    }

    private static void nightsAreCounted() {
        Sentences.of(9, "NIGHTS are counted.");
        BaredCurtain x = Due.house("k1 1 0;");
        x.night(1);
        Due.is("told(4)", x.told(4), 1);
        x.night(20);
        Due.is("told(4)", x.told(4), 21);
        x.drift(20);
        Due.is("told(4)", x.told(4), 41);
        x.who(20);
        x.wholeBy();
        x.night(21);
        Due.is("told(4), tried or refused ones are none", x.told(4), 41);
    }

    private static void late(String text, int due) {
        Due.is("told(8) of \"" + text + "\"", Due.house(text).told(8), due);
    }

    private static void late() {
        Sentences.of(5, "It falls LATE by the weight of all CELLS / 50.");
        late("k1 1 0;c0 0 0 1;", 0);
        late("k1 1 0;c0 49 0 1;", 0);
        late("k1 1 0;c0 50 0 1;", 1);
        late("k1 1 0;c0 99 0 1;", 1);
        late("k2 1 0;c0 50 0 1;", 2);
        late("k1 1 0;c0 50 0 1;h0;", 0);
        late("k5 4 0;c0 99 0 1;", 39);
        late("k5 4 0;", 4);
        late("k3 1 0;c0 50 0 1;", 3);
    }

    private static void holesWhereThereAreNone() {
        Sentences.of(10, "A HOLE is made by a cut, or MOTHS (in a CELL that has none).");
        BaredCurtain x = Due.house("k1 1 0;c0 10 9 1;");
        Due.is("cut(0)", x.cut(0), 1);
        Due.is("cut(0)", x.cut(0), Due.NOT);
        Due.is("drift(20), the one hole stays one", x.drift(20), 1);
        Due.is("cell(0, 0)", x.cell(0, 0), 0);
    }
}
