import java.math.BigInteger;

/** Promises 9 to 14: the edges of what is done, BY DRAWS and UNDONE. */
final class DoneBounds {
    private static final BigInteger TIMES = BigInteger.valueOf(1103515245L);
    private static final BigInteger MORE = BigInteger.valueOf(12345L);
    private static final BigInteger LEFT_OVER_BY = BigInteger.ONE.shiftLeft(31);

    private DoneBounds() {
    }

    static void test() {
        nightsAtOnce();
        shownInTheLast();
        nightWithoutACurtain();
        nightsAreFull();
        cutWhereThereIsOne();
        cutCells();
        goes();
        dresses();
        goesAndIsDressed();
        driftsAtOnce();
        driftWithoutACurtain();
        driftsAreFull();
        drawsWrapAround();
        drawsOfCells();
        seedAtFirst();
        mothsWhereThereIsAHole();
        undone();
        undoneIsNotRefused();
        undoneTwenty();
        seedStays();
        undoneNone();
    }

    private static void nightsAtOnce() {
        Sentences.of(9, "n NIGHTS (1 .. 20): who was SHOWN in the last of them (a SET).");
        BaredCurtain x = Due.house("k1 1 0;h0;a0 1 0 0;");
        Due.is("night(1)", x.night(1), 1);
        Due.is("night(20)", x.night(20), 1);
        Due.is("told(4)", x.told(4), 21);
        Due.is("told(7)", x.told(7), 21);
        Due.is("told(12), each call once", x.told(12), 2);
        Due.is("night(0)", x.night(0), Due.OUTSIDE);
        Due.is("night(21)", x.night(21), Due.OUTSIDE);
        Due.is("night(-1)", x.night(-1), Due.OUTSIDE);
        Due.is("night(the least)", x.night(Integer.MIN_VALUE), Due.OUTSIDE);
        Due.is("night(the greatest)", x.night(Integer.MAX_VALUE), Due.OUTSIDE);
        Due.is("told(4)", x.told(4), 21);
        Due.is("told(12)", x.told(12), 2);
    }

    private static void shownInTheLast() {
        Sentences.of(9, "who was SHOWN in the last of them (a SET)");
        BaredCurtain x = Due.house("k2 2 0;h0;h2;h1;a0 2 0 9;a1 1 0 9;");
        Due.is("night(2), in the second one alone", x.night(2), 1);
        Due.is("undo()", x.undo(), 0);
        Due.is("night(1)", x.night(1), 3);
        Due.is("undo()", x.undo(), 0);
        Due.is("night(3)", x.night(3), 0);
    }

    private static void nightWithoutACurtain() {
        Sentences.of(9, "OUTSIDE, NOT: no CURTAIN; FULL: NIGHTS are above 9000.");
        BaredCurtain x = new BaredCurtain();
        Due.is("night(1)", x.night(1), Due.NOT);
        Due.is("night(20)", x.night(20), Due.NOT);
        Due.is("night(0), the first refusal", x.night(0), Due.OUTSIDE);
        Due.is("night(21), the first refusal", x.night(21), Due.OUTSIDE);
        Due.is("told(4)", x.told(4), 0);
        Due.is("told(12)", x.told(12), 0);
        x = Due.house("k1 1 0;");
        x.night(5);
        x.house();
        Due.is("night(1), the curtain is gone", x.night(1), Due.NOT);
    }

    /** 450 calls, so that the 512 of the document suffice. */
    private static BaredCurtain nineThousand() {
        BaredCurtain x = Due.house("k1 1 0;a0 1 0 1;");
        for (int i = 0; i < 450; i++) {
            x.night(20);
        }
        return x;
    }

    private static void nightsAreFull() {
        Sentences.of(9, "FULL: NIGHTS are above 9000.");
        BaredCurtain x = nineThousand();
        Due.is("told(4)", x.told(4), 9000);
        Due.is("keep(0)", x.keep(0), 1);
        Due.is("night(20), 9000 is not above", x.night(20), 0);
        Due.is("told(4)", x.told(4), 9020);
        Due.is("night(1)", x.night(1), Due.FULL);
        Due.is("night(20)", x.night(20), Due.FULL);
        Due.is("drift(1)", x.drift(1), Due.FULL);
        Due.is("night(0), the first refusal", x.night(0), Due.OUTSIDE);
        Due.is("told(4)", x.told(4), 9020);
        Due.is("told(12)", x.told(12), 1);
        Due.is("cut(0), no night", x.cut(0), 1);
        Due.is("who(0), nothing is done by it", x.who(0), 1);
        Due.is("who(1)", x.who(1), 0);
        Due.is("wholeBy()", x.wholeBy(), 1);
        Due.is("stands(0, 1, 0)", x.stands(0, 1, 0), 0);
        Due.is("undo()", x.undo(), 1);
        Due.is("undo()", x.undo(), 0);
        Due.is("night(1), 9000 again", x.night(1), 0);
        Due.is("night(1), 9001", x.night(1), Due.FULL);
        Due.is("goBack(0)", x.goBack(0), 1);
        Due.is("night(1), 9000 again", x.night(1), 0);
        Due.feed(x, "k1 1 0;");
        x.house();
        Due.is("night(1), a new house", x.night(1), 0);
        Due.is("told(4)", x.told(4), 1);
    }

    private static void cutWhereThereIsOne() {
        Sentences.of(10, "A HOLE is cut: how many HOLES. UNKNOWN, NOT: there is one.");
        BaredCurtain x = Due.house("k2 1 0;h0;a0 1 1 1;");
        Due.is("cut(0), told", x.cut(0), Due.NOT);
        Due.is("cut(1)", x.cut(1), 2);
        Due.is("cut(1), cut", x.cut(1), Due.NOT);
        Due.is("told(12)", x.told(12), 1);
        x.night(1);
        Due.is("cut(0), mended", x.cut(0), 2);
        Due.is("cut(0), cut", x.cut(0), Due.NOT);
    }

    private static void cutCells() {
        Sentences.of(10, "UNKNOWN (a CELL, CLOTH, ACTOR, COLUMN, IMAGE that there is not");
        BaredCurtain x = Due.house("k5 4 0;");
        for (int c = 0; c < 20; c++) {
            Due.is("cut(" + c + ")", x.cut(c), c + 1);
        }
        Due.is("cut(20), none", x.cut(20), Due.UNKNOWN);
        Due.is("cut(32)", x.cut(32), Due.UNKNOWN);
        Due.is("cut(-1)", x.cut(-1), Due.UNKNOWN);
        Due.is("cut(the least)", x.cut(Integer.MIN_VALUE), Due.UNKNOWN);
        Due.is("cut(the greatest)", x.cut(Integer.MAX_VALUE), Due.UNKNOWN);
        Due.is("cut(4) of four", Due.house("k2 2 0;").cut(4), Due.UNKNOWN);
        Due.is("cut(3) of four", Due.house("k2 2 0;").cut(3), 1);
    }

    private static void goes() {
        Sentences.of(11, "An ACTOR goes to a COLUMN: which one it was. UNKNOWN.");
        BaredCurtain x = Due.house("k4 1 0;a3 1 0 0;a0 1 0 0;");
        Due.is("go(0, 0)", x.go(0, 0), 3);
        Due.is("go(1, 3)", x.go(1, 3), 0);
        Due.is("go(1, 3), where he is", x.go(1, 3), 3);
        Due.is("told(12), it can be undone all the same", x.told(12), 3);
        Due.is("go(0, 4)", x.go(0, 4), Due.UNKNOWN);
        Due.is("go(0, -1)", x.go(0, -1), Due.UNKNOWN);
        Due.is("go(2, 0)", x.go(2, 0), Due.UNKNOWN);
        Due.is("go(-1, 0)", x.go(-1, 0), Due.UNKNOWN);
        Due.is("go(the least, the greatest)", x.go(Integer.MIN_VALUE, Integer.MAX_VALUE), Due.UNKNOWN);
        Due.is("go(0, the least)", x.go(0, Integer.MIN_VALUE), Due.UNKNOWN);
        Due.is("actor(0, 0)", x.actor(0, 0), 0);
        Due.is("actor(1, 0)", x.actor(1, 0), 3);
        Due.is("told(12)", x.told(12), 3);
    }

    private static void dresses() {
        Sentences.of(12, "An ACTOR gets n pieces (0 .. 9) of a CLOTH on: how many he had. UNKNOWN, OUTSIDE.");
        BaredCurtain x = Due.house("k1 1 0;a0 1 0 5;a0 1 0 0;");
        Due.is("dress(0, 4, 9)", x.dress(0, 4, 9), 5);
        Due.is("dress(0, 0, 0)", x.dress(0, 0, 0), 9);
        Due.is("dress(1, 4, 9)", x.dress(1, 4, 9), 0);
        Due.is("dress(0, 0, 10)", x.dress(0, 0, 10), Due.OUTSIDE);
        Due.is("dress(0, 0, -1)", x.dress(0, 0, -1), Due.OUTSIDE);
        Due.is("dress(0, 0, the greatest)", x.dress(0, 0, Integer.MAX_VALUE), Due.OUTSIDE);
        Due.is("dress(0, 5, 0)", x.dress(0, 5, 0), Due.UNKNOWN);
        Due.is("dress(0, -1, 0)", x.dress(0, -1, 0), Due.UNKNOWN);
        Due.is("dress(2, 0, 0)", x.dress(2, 0, 0), Due.UNKNOWN);
        Due.is("dress(-1, 0, 0)", x.dress(-1, 0, 0), Due.UNKNOWN);
        Due.is("dress(2, 0, 10), the first refusal", x.dress(2, 0, 10), Due.UNKNOWN);
        Due.is("dress(0, 5, -1), the first refusal", x.dress(0, 5, -1), Due.UNKNOWN);
        Due.is("actor(0, 2)", x.actor(0, 2), 0);
        Due.is("actor(0, 3)", x.actor(0, 3), 0);
        Due.is("actor(1, 2)", x.actor(1, 2), 4);
        Due.is("actor(1, 3)", x.actor(1, 3), 9);
        Due.is("told(12)", x.told(12), 3);
    }

    private static void goesAndIsDressed() {
        Sentences.of(12, "An ACTOR goes to another COLUMN; gets another CLOTH on, so many pieces.");
        BaredCurtain x = Due.house("k2 1 0;h0;h1;a0 1 1 1;");
        x.go(0, 1);
        x.dress(0, 4, 2);
        Due.is("night(1)", x.night(1), 1);
        Due.is("told(5), of his new column", x.told(5), 1);
        Due.is("cell(1, 0), of his new cloth", x.cell(1, 0), 4);
        Due.is("actor(0, 3)", x.actor(0, 3), 1);
        x.dress(0, 3, 0);
        x.go(0, 0);
        Due.is("night(1)", x.night(1), 1);
        Due.is("actor(0, 4), he got none", x.actor(0, 4), 1);
        Due.is("told(5)", x.told(5), 1);
    }

    private static void driftsAtOnce() {
        Sentences.of(13, "n NIGHTS (1 .. 20) BY DRAWS: HOLES (a SET).");
        BaredCurtain x = Due.house("k1 1 0;c0 10 9 5;");
        Due.is("drift(0)", x.drift(0), Due.OUTSIDE);
        Due.is("drift(21)", x.drift(21), Due.OUTSIDE);
        Due.is("drift(-1)", x.drift(-1), Due.OUTSIDE);
        Due.is("drift(the greatest)", x.drift(Integer.MAX_VALUE), Due.OUTSIDE);
        Due.is("seed(0), nothing was drawn", x.seed(0), 0);
        Due.is("drift(1)", x.drift(1), 1);
        Due.is("drift(20)", x.drift(20), 1);
        Due.is("told(4)", x.told(4), 21);
        Due.is("told(12)", x.told(12), 2);
        Due.is("seed(0), two draws a night", x.seed(0), seedBehind(0, 42));
    }

    private static void driftWithoutACurtain() {
        Sentences.of(13, "OUTSIDE, NOT: no CURTAIN;");
        BaredCurtain x = new BaredCurtain();
        x.seed(8);
        Due.is("drift(1)", x.drift(1), Due.NOT);
        Due.is("drift(20)", x.drift(20), Due.NOT);
        Due.is("drift(0), the first refusal", x.drift(0), Due.OUTSIDE);
        Due.is("drift(21), the first refusal", x.drift(21), Due.OUTSIDE);
        Due.is("seed(0), nothing was drawn", x.seed(0), 8);
    }

    private static void driftsAreFull() {
        Sentences.of(13, "FULL: NIGHTS are above 9000.");
        BaredCurtain x = nineThousand();
        Due.is("drift(1), 9000 is not above", x.drift(1), 0);
        Due.is("told(4)", x.told(4), 9001);
        int seed = x.seed(5);
        Due.is("seed(5)", seed, seedBehind(0, 2));
        Due.is("drift(1)", x.drift(1), Due.FULL);
        Due.is("drift(20)", x.drift(20), Due.FULL);
        Due.is("drift(21), the first refusal", x.drift(21), Due.OUTSIDE);
        Due.is("seed(0), nothing was drawn", x.seed(0), 5);
        Due.is("told(4)", x.told(4), 9001);
        Due.is("undo()", x.undo(), 19);
        Due.is("drift(20), 9000 again", x.drift(20), 0);
        Due.is("told(4)", x.told(4), 9020);
    }

    private static long seedBehind(long seed, int draws) {
        BigInteger s = BigInteger.valueOf(seed);
        for (int i = 0; i < draws; i++) {
            s = s.multiply(TIMES).add(MORE).mod(LEFT_OVER_BY);
        }
        return s.longValueExact();
    }

    private static void drawsWrapAround() {
        Sentences.of(13, "each DRAW it becomes it times 1103515245 and 12345, left over by 2 to the 31");
        int[] seeds = {0, 1, 2, 65535, 65536, 1 << 30, 1103515245, 2147483646, 2147483647};
        for (int seed : seeds) {
            BaredCurtain x = Due.house("k5 4 0;");
            x.seed(seed);
            x.drift(1);
            Due.is("seed(0), from " + seed, x.seed(seed), seedBehind(seed, 2));
            x.drift(20);
            Due.is("seed(0), from " + seed, x.seed(0), seedBehind(seed, 40));
        }
    }

    /** Every draw of 10 against every M, from below it to its edge and beyond. */
    private static void drawsOfCells() {
        Sentences.of(13, "ahead of each a DRAW of CELLS, a DRAW of 10: below M of its CLOTH a HOLE is there");
        Sentences.of(13, "the DRAW of n is it / 65536, left over by n");
        int[] met = new int[100];
        for (int m = 0; m <= 9; m++) {
            for (int seed = 0; seed < 60; seed++) {
                BaredCurtain x = Due.house("k5 4 0;c0 10 " + m + " 5;");
                x.seed(seed * 35791394);
                long cell = seedBehind(seed * 35791394L, 1) / 65536 % 20;
                long appetite = seedBehind(seed * 35791394L, 2) / 65536 % 10;
                met[(int) (10 * m + appetite)]++;
                Due.is("drift(1), M " + m + ", draw " + appetite, x.drift(1), appetite < m ? 1 << cell : 0);
            }
        }
        for (int i = 0; i < 100; i++) {
            Due.holds("M " + i / 10 + " and draw " + i % 10 + " were not met", met[i] > 0);
        }
        int[][] sizes = {{1, 1}, {1, 4}, {3, 3}, {5, 1}};
        for (int[] size : sizes) {
            int cells = size[0] * size[1];
            for (int seed = 1; seed < 30; seed++) {
                BaredCurtain x = Due.house("k" + size[0] + " " + size[1] + " 0;c0 10 9 5;");
                x.seed(seed);
                long cell = seedBehind(seed, 1) / 65536 % cells;
                long appetite = seedBehind(seed, 2) / 65536 % 10;
                Due.is("drift(1) of " + cells, x.drift(1), appetite < 9 ? 1 << cell : 0);
            }
        }
    }

    private static void seedAtFirst() {
        Sentences.of(13, "THE SEED (0 at first");
        Due.is("seed(0)", new BaredCurtain().seed(0), 0);
        BaredCurtain x = Due.house("k5 4 0;c0 10 9 5;");
        Due.is("drift(1): cell 0, 8 is below 9", x.drift(1), 1);
    }

    /** From the seed 0 the second night draws a cell of ten, 8, and the third one 8 again. */
    private static void mothsWhereThereIsAHole() {
        Sentences.of(13, "a HOLE is there (if there is none)");
        BaredCurtain x = Due.house("k5 2 0;c0 10 9 5;");
        Due.is("drift(2)", x.drift(2), 1 + 256);
        Due.is("drift(1), there is one", x.drift(1), 1 + 256);
        Due.is("seed(0), drawn all the same", x.seed(0), seedBehind(0, 6));
        Due.is("cell(8, 0)", x.cell(8, 0), 0);
        Due.is("cell(8, 2)", x.cell(8, 2), 0);
    }

    private static void undone() {
        Sentences.of(14, "all of section 2 is as ahead of it");
        BaredCurtain x = Due.house("k2 1 0;h0;a0 1 1 1;a0 1 2 0;");
        x.night(2);
        Due.is("undo(), a night", x.undo(), 0);
        Due.is("told(4)", x.told(4), 0);
        Due.is("told(5)", x.told(5), 1);
        Due.is("told(7)", x.told(7), 0);
        Due.is("cell(0, 0)", x.cell(0, 0), 0);
        Due.is("cell(0, 2)", x.cell(0, 2), 0);
        Due.is("actor(0, 3)", x.actor(0, 3), 1);
        Due.is("actor(1, 4)", x.actor(1, 4), 0);
        x.cut(1);
        Due.is("undo(), a cut", x.undo(), 0);
        Due.is("told(5)", x.told(5), 1);
        x.go(1, 1);
        Due.is("undo(), a place", x.undo(), 0);
        Due.is("actor(1, 0)", x.actor(1, 0), 0);
        x.dress(1, 4, 9);
        Due.is("undo(), a costume", x.undo(), 0);
        Due.is("actor(1, 2)", x.actor(1, 2), 2);
        Due.is("actor(1, 3)", x.actor(1, 3), 0);
        x.drift(20);
        Due.is("undo(), twenty nights at once", x.undo(), 0);
        Due.is("told(4)", x.told(4), 0);
        Due.is("told(5)", x.told(5), 1);
        Due.is("told(7)", x.told(7), 0);
    }

    private static void undoneIsNotRefused() {
        Sentences.of(14, "the latest of night(), cut(), go(), dress(), drift() that was not refused");
        BaredCurtain x = Due.house("k2 1 0;h0;a0 1 1 1;");
        x.go(0, 1);
        x.night(0);
        x.cut(0);
        x.cut(9);
        x.go(0, 2);
        x.dress(0, 0, 10);
        x.dress(0, 5, 1);
        x.drift(21);
        x.see(0, true);
        x.write(0, 4);
        x.seed(3);
        x.who(20);
        x.stands(0, 20, -1);
        x.feed('x');
        x.house();
        Due.is("told(12), one of all these", x.told(12), 1);
        Due.is("undo()", x.undo(), 0);
        Due.is("actor(0, 0)", x.actor(0, 0), 0);
        Due.is("told(10), not of section 2", x.told(10), 1);
        Due.is("told(11), not of section 2", x.told(11), 1);
    }

    private static void undoneTwenty() {
        Sentences.of(14, "(20 at most are kept, the oldest are lost)");
        BaredCurtain x = Due.house("k5 4 0;a0 1 0 0;");
        for (int n = 1; n <= 20; n++) {
            x.dress(0, 0, n % 10);
            Due.is("told(12)", x.told(12), n);
        }
        x.dress(0, 0, 1);
        Due.is("told(12), the first is lost", x.told(12), 20);
        for (int n = 20; n >= 1; n--) {
            Due.is("undo()", x.undo(), n - 1);
            Due.is("actor(0, 3)", x.actor(0, 3), n % 10);
        }
        Due.is("undo()", x.undo(), Due.NOT);
        Due.is("actor(0, 3), behind the one that is lost", x.actor(0, 3), 1);
        for (int n = 0; n < 45; n++) {
            x.go(0, n % 5);
        }
        Due.is("told(12)", x.told(12), 20);
        Due.is("undo()", x.undo(), 19);
        Due.is("actor(0, 0)", x.actor(0, 0), 3);
        x.go(0, 0);
        Due.is("told(12)", x.told(12), 20);
        for (int n = 19; n >= 0; n--) {
            Due.is("undo()", x.undo(), n);
            Due.is("actor(0, 0)", x.actor(0, 0), (n + 4) % 5);
        }
        Due.is("undo()", x.undo(), Due.NOT);
    }

    private static void seedStays() {
        Sentences.of(14, "THE SEED stays.");
        BaredCurtain x = Due.house("k2 2 0;");
        x.seed(77);
        x.drift(3);
        x.undo();
        Due.is("seed(1)", x.seed(1), seedBehind(77, 6));
        x.cut(0);
        x.seed(9);
        x.undo();
        Due.is("seed(1)", x.seed(1), 9);
    }

    private static void undoneNone() {
        Sentences.of(14, "The latest is undone: how many more can be. NOT: none.");
        BaredCurtain x = new BaredCurtain();
        Due.is("undo(), no curtain", x.undo(), Due.NOT);
        x = Due.house("k1 1 0;");
        Due.is("undo(), a new house", x.undo(), Due.NOT);
        x.cut(0);
        Due.is("undo()", x.undo(), 0);
        Due.is("undo(), nothing is done again", x.undo(), Due.NOT);
        Due.is("told(5)", x.told(5), 0);
    }
}
