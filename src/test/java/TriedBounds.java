/** Promises 15 to 23: the edges of all that is tried. */
final class TriedBounds {
    private static final String FOUR = "k1 4 0;h0;h1;h2;h3;";

    private TriedBounds() {
    }

    static void test() {
        whoBehindNights();
        wholeAtOnce();
        wholeNever();
        standsByNights();
        standsToldActor();
        standsFewest();
        standsFirst();
        standsAnswers();
        standsRefused();
        standsInANarrowerHouse();
        hiddenRows();
        cannotWithoutAPiece();
        sewingByTailors();
        sewingEightHoles();
        sewingByOneTailorEach();
        sewingOfTheCellsCloth();
        leastOfPieces();
        leastRefused();
        mothsWithoutAHole();
        mothsLikeNone();
        threadBounds();
        threadIsCut();
        nothingChanges();
    }

    private static void whoBehindNights() {
        Sentences.of(15, "WHO is SHOWN behind n NIGHTS (0 .. 20), in the next one.");
        BaredCurtain x = Due.house(FOUR + "a0 4 0 3;a0 1 0 0;");
        int[] due = {3, 1, 1, 1};
        for (int n = 0; n <= 20; n++) {
            Due.is("who(" + n + ")", x.who(n), due[Math.min(n, 3)]);
        }
        Due.is("who(0) as it hangs now", x.who(0), x.told(6));
        Due.is("who(-1)", x.who(-1), Due.OUTSIDE);
        Due.is("who(21)", x.who(21), Due.OUTSIDE);
        Due.is("who(the least)", x.who(Integer.MIN_VALUE), Due.OUTSIDE);
        Due.is("who(the greatest)", x.who(Integer.MAX_VALUE), Due.OUTSIDE);
        Due.is("who(21), no curtain", new BaredCurtain().who(21), Due.OUTSIDE);
        x.dress(0, 0, 4);
        Due.is("who(3), the last hole", x.who(3), 1);
        Due.is("who(4), none is left", x.who(4), 0);
        Due.is("who(20)", x.who(20), 0);
        x.cut(0);
        Due.is("told(4), nothing was played", x.told(4), 0);
    }

    private static void wholeAtOnce() {
        Sentences.of(16, "WHOLE BY: behind how many NIGHTS (0 .. 40) there is no HOLE, as all stand; NONE.");
        Due.is("wholeBy(), no hole", Due.house("k1 4 0;a0 1 0 0;").wholeBy(), 0);
        Due.is("wholeBy(), nobody", Due.house("k1 4 0;").wholeBy(), 0);
        Due.is("wholeBy(), one hole", Due.house("k1 4 0;h0;a0 1 0 1;").wholeBy(), 1);
        Due.is("wholeBy(), four in a column", Due.house(FOUR + "a0 4 0 4;").wholeBy(), 4);
        Due.is("wholeBy(), four by four", Due.house(FOUR + "a0 4 0 1;a0 4 0 1;a0 4 0 1;a0 4 0 1;").wholeBy(), 1);
        Due.is("wholeBy(), four by two", Due.house(FOUR + "a0 4 0 9;a0 4 0 1;").wholeBy(), 3);
    }

    private static void wholeNever() {
        Sentences.of(16, "there is no HOLE, as all stand; NONE");
        Due.is("wholeBy(), nobody mends", Due.house("k1 4 0;h0;").wholeBy(), Due.NONE);
        Due.is("wholeBy(), one piece too few", Due.house(FOUR + "a0 4 0 3;").wholeBy(), Due.NONE);
        Due.is("wholeBy(), one row too short", Due.house(FOUR + "a0 3 0 9;").wholeBy(), Due.NONE);
        Due.is("wholeBy(), another column", Due.house("k2 1 0;h1;a0 4 0 9;").wholeBy(), Due.NONE);
        BaredCurtain x = Due.house("k2 4 0;c0 99 0 1;h0;h1;h3;h5;a0 4 0 9;");
        Due.is("wholeBy(), it hangs too low", x.wholeBy(), Due.NONE);
        x = Due.house("k4 4 0;c0 99 0 1;h14;h15;a2 4 0 9;a3 4 0 9;");
        Due.is("wholeBy(), it hangs too high", x.wholeBy(), Due.NONE);
    }

    private static void standsAt(BaredCurtain x, int a, int n, int bared, int... columns) {
        Due.is("stands(" + a + ", " + n + ", -1)", x.stands(a, n, -1), bared);
        for (int i = 0; i < columns.length; i++) {
            Due.is("stands(" + a + ", " + n + ", " + i + ")", x.stands(a, n, i), columns[i]);
        }
    }

    private static void standsByNights() {
        Sentences.of(17, "behind n NIGHTS (1 .. 20) there is no HOLE");
        BaredCurtain x = Due.house(FOUR + "a0 4 0 4;");
        standsAt(x, 0, 1, Due.NONE, Due.NONE);
        standsAt(x, 0, 3, Due.NONE, Due.NONE);
        standsAt(x, 0, 4, 0, 0);
        standsAt(x, 0, 20, 0, 0);
        Due.is("stands(0, 0, -1)", x.stands(0, 0, -1), Due.OUTSIDE);
        Due.is("stands(0, 21, -1)", x.stands(0, 21, -1), Due.OUTSIDE);
        Due.is("stands(0, -1, 0)", x.stands(0, -1, 0), Due.OUTSIDE);
        Due.is("stands(0, the greatest, 0)", x.stands(0, Integer.MAX_VALUE, 0), Due.OUTSIDE);
        standsAt(Due.house("k3 1 0;a2 1 0 0;a1 1 0 0;"), 0, 1, 0, 0, 0);
    }

    private static void standsToldActor() {
        Sentences.of(17, "a told ACTOR has not been BARED in them");
        BaredCurtain x = Due.house("k1 1 0;h0;a0 1 0 0;a0 1 0 1;");
        standsAt(x, 0, 1, Due.NONE, Due.NONE, Due.NONE);
        standsAt(x, 1, 1, 1, 0, 0);
        x = Due.house("k2 1 0;h0;a0 1 0 0;");
        x.night(20);
        x.dress(0, 0, 1);
        Due.is("actor(0, 4), bared ahead of them", x.actor(0, 4), 20);
        standsAt(x, 0, 1, 0, 0);
    }

    private static void standsFewest() {
        Sentences.of(17, "fewest BARED in all");
        BaredCurtain x = Due.house("k1 2 0;h0;h1;a0 2 0 2;a0 2 0 0;a0 1 0 0;");
        standsAt(x, 0, 2, 3, 0, 0, 0);
        standsAt(x, 1, 20, Due.NONE, Due.NONE, Due.NONE, Due.NONE);
        x = Due.house("k2 1 0;h0;h1;a0 1 0 1;a0 1 0 1;a0 1 0 0;");
        standsAt(x, 0, 1, 1, 0, 1, 0);
        x = Due.house("k3 1 0;h0;h1;a0 1 0 1;a0 1 0 1;a0 1 0 0;");
        standsAt(x, 0, 1, 0, 0, 1, 2);
    }

    private static void standsFirst() {
        Sentences.of(17, "of like ones the first (ACTOR by ACTOR the lesser COLUMN)");
        standsAt(Due.house("k5 4 0;a4 1 0 0;a3 1 0 0;a2 1 0 0;a1 1 0 0;a4 1 0 0;"), 4, 20, 0, 0, 0, 0, 0, 0);
        standsAt(Due.house("k2 1 0;h0;h1;a1 1 0 1;a0 1 0 1;"), 0, 1, 0, 0, 1);
        standsAt(Due.house("k5 1 0;h4;a0 1 0 1;a0 1 0 1;"), 0, 1, 0, 0, 4);
        standsAt(Due.house("k5 1 0;h4;a0 1 0 1;"), 0, 1, 0, 4);
        standsAt(Due.house("k5 1 0;h0;h1;h2;h3;h4;a0 1 0 1;a0 1 0 1;a0 1 0 1;a0 1 0 1;a0 1 0 1;"), 4, 1, 0, 0, 1, 2, 3, 4);
    }

    private static void standsAnswers() {
        Sentences.of(17, "i = NONE how many BARED, else the COLUMN of ACTOR i; NONE.");
        BaredCurtain x = Due.house("k5 1 0;h4;h3;a0 1 0 1;a0 1 0 1;");
        Due.is("stands(1, 1, -1)", x.stands(1, 1, Due.NONE), 0);
        Due.is("stands(1, 1, 0)", x.stands(1, 1, 0), 3);
        Due.is("stands(1, 1, 1)", x.stands(1, 1, 1), 4);
        x.cut(0);
        Due.is("stands(1, 20, -1), three for two", x.stands(1, 20, Due.NONE), Due.NONE);
        Due.is("stands(1, 20, 0)", x.stands(1, 20, 0), Due.NONE);
        Due.is("stands(1, 20, 1)", x.stands(1, 20, 1), Due.NONE);
    }

    private static void standsRefused() {
        Sentences.of(17, "UNKNOWN (a, i), OUTSIDE.");
        BaredCurtain x = Due.house("k2 1 0;a0 1 0 0;a1 1 0 0;");
        int[] none = {2, 5, 32, -2, Integer.MIN_VALUE, Integer.MAX_VALUE, Due.UNKNOWN};
        for (int i : none) {
            Due.is("stands(" + i + ", 1, 0)", x.stands(i, 1, 0), Due.UNKNOWN);
            Due.is("stands(0, 1, " + i + ")", x.stands(0, 1, i), Due.UNKNOWN);
            Due.is("stands(" + i + ", 0, 0), the first refusal", x.stands(i, 0, 0), Due.UNKNOWN);
            Due.is("stands(0, 21, " + i + "), the first refusal", x.stands(0, 21, i), Due.UNKNOWN);
        }
        Due.is("stands(-1, 1, -1), NONE is no told one", x.stands(-1, 1, -1), Due.UNKNOWN);
        Due.is("stands(1, 21, 1)", x.stands(1, 21, 1), Due.OUTSIDE);
        Due.is("stands(0, 1, -1), no actors", Due.house("k1 1 0;").stands(0, 1, -1), Due.UNKNOWN);
    }

    /** The house before had more columns, all with holes, and more actors: nothing of it counts. */
    private static void standsInANarrowerHouse() {
        Sentences.of(17, "STANDS: COLUMNS for all ACTORS by which");
        BaredCurtain x = Due.house("k5 4 0;h1;h2;h3;h4;h9;h19;a0 4 0 9;a1 4 0 9;a2 4 0 9;a3 4 0 9;a4 4 0 9;");
        standsAt(x, 0, 20, 0, 0, 1, 2, 3, 4);
        for (int w = 4; w >= 1; w--) {
            Due.feed(x, "k" + w + " 1 0;h" + (w - 1) + ";a0 1 0 1;");
            Due.is("house()", x.house(), 1);
            standsAt(x, 0, 1, 0, w - 1);
        }
    }

    private static void hidden(String text, int due) {
        Due.is("hidden() of \"" + text + "\"", Due.house(text).hidden(), due);
    }

    private static void hiddenRows() {
        Sentences.of(18, "HIDDEN: HOLES (a SET of CELLS) that hang in none of rows 0 to 3 now.");
        hidden("k1 4 0;h0;h3;", 0);
        hidden("k5 4 0;", 0);
        hidden("k2 4 0;c0 99 0 1;h0;h2;h1;h3;h5;h7;", 1 + (1 << 7));
        hidden("k2 4 0;c0 99 0 1;h1;h3;h0;h2;h4;h6;", 2 + (1 << 6));
        hidden("k4 4 0;c0 99 0 1;h14;h15;", (1 << 14) + (1 << 15));
        hidden("k4 4 0;c0 99 0 1;h10;h11;", 0);
        hidden("k4 4 0;c0 99 0 1;h12;h13;", (1 << 12) + (1 << 13));
        hidden("k3 4 0;c0 99 0 1;h1;h10;h2;h5;h8;h11;", (1 << 5) + (1 << 8) + (1 << 11));
        // A curtain of one row hides a hole above it only from row 4 on.
        hidden("k2 1 0;c0 99 0 1;h0;h1;", 0);
    }

    private static void cannotWithoutAPiece() {
        Sentences.of(19, "CANNOT: COLUMNS (a SET) with a HOLE, behind which nobody stands who has a piece on.");
        BaredCurtain x = Due.house("k5 4 0;h0;h9;h17;a0 1 0 1;a4 4 0 0;");
        Due.is("cannot()", x.cannot(), 16 + 4);
        x.dress(1, 0, 1);
        Due.is("cannot(), one piece", x.cannot(), 4);
        x.dress(0, 0, 0);
        Due.is("cannot(), no piece", x.cannot(), 4 + 1);
        x.go(1, 2);
        Due.is("cannot()", x.cannot(), 16 + 1);
        Due.is("cannot(), no hole", Due.house("k5 4 0;a0 1 0 0;").cannot(), 0);
        Due.is("cannot(), nobody", Due.house("k5 1 0;h0;h1;h2;h3;h4;").cannot(), 31);
        Due.is("cannot(), too short, but a piece is on", Due.house("k1 4 0;h3;a0 1 0 1;").cannot(), 0);
    }

    private static String holes(int n) {
        StringBuilder s = new StringBuilder();
        for (int c = 0; c < n; c++) {
            s.append('h').append(c).append(';');
        }
        return s.toString();
    }

    private static void sewingByTailors() {
        Sentences.of(20, "all HOLES are SEWN by k tailors (1 .. 3)");
        BaredCurtain x = Due.house("k5 4 0;c0 0 0 7;" + holes(3));
        Due.is("sewing(1)", x.sewing(1), 21);
        Due.is("sewing(2)", x.sewing(2), 14);
        Due.is("sewing(3)", x.sewing(3), 7);
        Due.is("sewing(0)", x.sewing(0), Due.OUTSIDE);
        Due.is("sewing(4)", x.sewing(4), Due.OUTSIDE);
        Due.is("sewing(-1)", x.sewing(-1), Due.OUTSIDE);
        Due.is("sewing(the least)", x.sewing(Integer.MIN_VALUE), Due.OUTSIDE);
        Due.is("sewing(the greatest)", x.sewing(Integer.MAX_VALUE), Due.OUTSIDE);
        x = Due.house("k5 4 0;");
        for (int k = 1; k <= 3; k++) {
            Due.is("sewing(" + k + "), no hole", x.sewing(k), 0);
        }
        x.cut(19);
        for (int k = 1; k <= 3; k++) {
            Due.is("sewing(" + k + "), one hole", x.sewing(k), 5);
        }
    }

    private static void sewingEightHoles() {
        Sentences.of(20, "the fewest MINUTES (8 HOLES at most)");
        BaredCurtain x = Due.house("k5 4 0;c0 0 0 60;" + holes(8));
        Due.is("sewing(1), eight", x.sewing(1), 480);
        Due.is("sewing(2)", x.sewing(2), 240);
        Due.is("sewing(3)", x.sewing(3), 180);
        Sentences.of(20, "OUTSIDE, NOT: more than 8 HOLES.");
        x.cut(19);
        Due.is("sewing(1), nine", x.sewing(1), Due.NOT);
        Due.is("sewing(3), nine", x.sewing(3), Due.NOT);
        Due.is("sewing(4), the first refusal", x.sewing(4), Due.OUTSIDE);
        Due.is("sewing(0), the first refusal", x.sewing(0), Due.OUTSIDE);
        x.undo();
        Due.is("sewing(3), eight again", x.sewing(3), 180);
        x = Due.house("k5 4 0;" + holes(20));
        Due.is("sewing(3), twenty", x.sewing(3), Due.NOT);
    }

    /** Minutes 3 3 2 2 2: by the longest first, two tailors would need 7. */
    private static void sewingByOneTailorEach() {
        Sentences.of(20, "by one tailor, one behind the other");
        BaredCurtain x = Due.house("k5 1 0;c0 0 0 2;c1 0 0 3;h0;h1;a0 1 1 1;a1 1 1 1;");
        x.night(1);
        for (int c = 0; c < 5; c++) {
            x.cut(c);
        }
        Due.is("sewing(1)", x.sewing(1), 12);
        Due.is("sewing(2)", x.sewing(2), 6);
        Due.is("sewing(3)", x.sewing(3), 5);
    }

    private static void sewingOfTheCellsCloth() {
        Sentences.of(20, "each HOLE with a patch of the CLOTH that its CELL has now");
        BaredCurtain x = Due.house("k1 1 2;c2 0 0 11;c3 0 0 1;h0;a0 1 3 1;");
        Due.is("sewing(1), the cloth that was", x.sewing(1), 11);
        x.night(1);
        x.cut(0);
        Due.is("sewing(1), the patch that was", x.sewing(1), 1);
    }

    private static void leastOfPieces() {
        Sentences.of(21, "LEAST: the fewest pieces of a CLOTH, put on HOLES (each one piece; other HOLES stay), so that LATE is t (0 .. 99) or more; NONE.");
        BaredCurtain x = Due.house("k5 1 0;c0 49 0 1;c1 50 0 1;c2 0 0 1;c3 1 0 1;h0;h1;h2;h3;h4;");
        Due.is("least(2, 0), as it is", x.least(2, 0), 0);
        Due.is("least(2, 1), of no weight", x.least(2, 1), Due.NONE);
        Due.is("least(1, 1): 50 / 50", x.least(1, 1), 1);
        Due.is("least(0, 1): 49 is too little", x.least(0, 1), 2);
        Due.is("least(1, 5), all holes", x.least(1, 5), 5);
        Due.is("least(1, 6), one hole more would do", x.least(1, 6), Due.NONE);
        Due.is("least(0, 4): 196 is too little", x.least(0, 4), 5);
        Due.is("least(0, 5): 245 is too little", x.least(0, 5), Due.NONE);
        x = Due.house("k5 1 0;c0 49 0 1;c3 1 0 1;h4;");
        Due.is("least(3, 3): 197 / 50, no piece", x.least(3, 3), 0);
        Due.is("least(3, 4): 197 / 50", x.least(3, 4), Due.NONE);
        Due.is("least(0, 4): 245 / 50", x.least(0, 4), 1);
        x = Due.house("k5 4 0;c0 99 0 1;" + holes(20));
        Due.is("least(0, 39): 1980 / 50", x.least(0, 39), 20);
        Due.is("least(0, 38): 1980 / 50, 1881 / 50 is 37", x.least(0, 38), 20);
        Due.is("least(0, 37)", x.least(0, 37), 19);
        Due.is("least(0, 40)", x.least(0, 40), Due.NONE);
        Due.is("least(0, 99)", x.least(0, 99), Due.NONE);
    }

    private static void leastRefused() {
        Sentences.of(21, "LEAST; NONE. UNKNOWN, OUTSIDE.");
        BaredCurtain x = Due.house("k5 1 0;h0;");
        Due.is("least(4, 0)", x.least(4, 0), 0);
        Due.is("least(5, 0)", x.least(5, 0), Due.UNKNOWN);
        Due.is("least(-1, 0)", x.least(-1, 0), Due.UNKNOWN);
        Due.is("least(the greatest, 0)", x.least(Integer.MAX_VALUE, 0), Due.UNKNOWN);
        Due.is("least(0, -1)", x.least(0, -1), Due.OUTSIDE);
        Due.is("least(0, 99)", x.least(0, 99), Due.NONE);
        Due.is("least(0, 100)", x.least(0, 100), Due.OUTSIDE);
        Due.is("least(0, the least)", x.least(0, Integer.MIN_VALUE), Due.OUTSIDE);
        Due.is("least(5, 100), the first refusal", x.least(5, 100), Due.UNKNOWN);
        Due.is("least(-1, -1), the first refusal", x.least(-1, -1), Due.UNKNOWN);
    }

    private static void mothsWithoutAHole() {
        Sentences.of(22, "CELLS (a SET) without a HOLE whose CLOTH MOTHS like most of all these");
        BaredCurtain x = Due.house("k5 4 0;c0 10 1 5;c1 10 9 5;h0;h19;a0 1 1 1;a4 4 1 1;");
        Due.is("moths()", x.moths(), 1048575 - 1 - (1 << 19));
        x.night(1);
        Due.is("moths(), two patches of what they like most", x.moths(), 1 + (1 << 19));
        x.cut(0);
        Due.is("moths(), the last of them", x.moths(), 1 << 19);
        x.undo();
        x.cut(19);
        Due.is("moths(), the first of them", x.moths(), 1);
        x.cut(0);
        Due.is("moths(), of the others", x.moths(), 1048575 - 1 - (1 << 19));
    }

    private static void mothsLikeNone() {
        Sentences.of(22, "(0, if all M are 0)");
        Due.is("moths(), all 0", Due.house("k5 4 0;").moths(), 0);
        Due.is("moths(), others are liked", Due.house("k5 4 0;c1 10 9 5;").moths(), 0);
        Due.is("moths(), liked by 1", Due.house("k5 4 0;c0 10 1 5;").moths(), 1048575);
        Due.is("moths(), holes alone", Due.house("k5 4 0;c0 10 9 5;" + holes(20)).moths(), 0);
    }

    private static void threadBounds() {
        Sentences.of(23, "odds that none of n patches (0 .. 60) opens");
        BaredCurtain x = new BaredCurtain();
        for (int q = 0; q <= 100; q += 25) {
            Due.is("thread(0, " + q + ")", x.thread(0, q), 1000000000);
        }
        Due.is("thread(60, 0)", x.thread(60, 0), 1000000000);
        Due.is("thread(60, 100)", x.thread(60, 100), 0);
        Due.is("thread(-1, 50)", x.thread(-1, 50), Due.OUTSIDE);
        Due.is("thread(61, 50)", x.thread(61, 50), Due.OUTSIDE);
        Due.is("thread(the least, 50)", x.thread(Integer.MIN_VALUE, 50), Due.OUTSIDE);
        Due.is("thread(the greatest, 50)", x.thread(Integer.MAX_VALUE, 50), Due.OUTSIDE);
        Sentences.of(23, "THREAD (q 0 .. 100). OUTSIDE.");
        Due.is("thread(1, 0)", x.thread(1, 0), 1000000000);
        Due.is("thread(1, 1)", x.thread(1, 1), 990000000);
        Due.is("thread(1, 99)", x.thread(1, 99), 10000000);
        Due.is("thread(1, 100)", x.thread(1, 100), 0);
        Due.is("thread(1, -1)", x.thread(1, -1), Due.OUTSIDE);
        Due.is("thread(1, 101)", x.thread(1, 101), Due.OUTSIDE);
        Due.is("thread(0, 101)", x.thread(0, 101), Due.OUTSIDE);
        Due.is("thread(1, the least)", x.thread(1, Integer.MIN_VALUE), Due.OUTSIDE);
        Due.is("thread(1, the greatest)", x.thread(1, Integer.MAX_VALUE), Due.OUTSIDE);
    }

    private static void threadIsCut() {
        Sentences.of(23, "a BILLION times (100 less q) / 100 each (cut)");
        BaredCurtain x = new BaredCurtain();
        Due.is("thread(9, 50)", x.thread(9, 50), 1953125);
        Due.is("thread(10, 50): 976562.5", x.thread(10, 50), 976562);
        Due.is("thread(29, 50): 1.86", x.thread(29, 50), 1);
        Due.is("thread(30, 50): 0.93", x.thread(30, 50), 0);
        Due.is("thread(4, 99)", x.thread(4, 99), 10);
        Due.is("thread(5, 99): 0.1", x.thread(5, 99), 0);
        Due.is("thread(5, 1)", x.thread(5, 1), 950990049);
        Due.is("thread(6, 1): 941480148.51", x.thread(6, 1), 941480148);
        Due.is("thread(7, 1): 932065346.52, from what was cut", x.thread(7, 1), 932065346);
        Due.is("thread(60, 1), 22 less than if it were cut at the end alone", x.thread(60, 1), 547156620);
    }

    private static void nothingChanges() {
        Sentences.of(15, "TRIED from now; nothing changes by it.");
        BaredCurtain x = Due.house("k2 2 0;c0 60 5 1;h0;h1;h3;a0 2 1 3;a1 2 2 2;");
        x.seed(12);
        x.go(0, 1);
        String before = Due.all(x);
        x.who(20);
        x.wholeBy();
        x.stands(0, 20, -1);
        x.stands(1, 1, 1);
        x.hidden();
        x.cannot();
        x.sewing(3);
        x.least(0, 99);
        x.moths();
        x.thread(60, 1);
        Due.holds("something changed", Due.all(x).equals(before));
        Due.is("seed(0)", x.seed(0), 12);
        Due.is("undo()", x.undo(), 0);
        Due.is("actor(0, 0)", x.actor(0, 0), 0);
    }
}
