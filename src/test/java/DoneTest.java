/** Promises 9 to 14: nights, cuts, places, costumes, moths by draws, undone. */
public final class DoneTest {
    public static void main(String[] args) {
        nightMends();
        nightIsSettledAtOnce();
        nightIsRefused();
        nightsHaveAnEnd();
        cut();
        go();
        dress();
        drift();
        driftIsRefused();
        undo();
        undoHasTwenty();
        Due.end("DoneTest");
    }

    private static void nightMends() {
        Due.in("promise 9");
        BaredCurtain x = Due.house("k1 3 0;h0;h1;h2;a0 1 1 1;a0 3 2 2;a0 2 3 0;");
        Due.is("night(1)", x.night(1), 7);
        Due.is("told(5): two of them mend, the least cells first", x.told(5), 4);
        Due.is("cell(0, 0)", x.cell(0, 0), 1);
        Due.is("cell(1, 0)", x.cell(1, 0), 2);
        Due.is("cell(2, 0)", x.cell(2, 0), 0);
        Due.is("actor(0, 3)", x.actor(0, 3), 0);
        Due.is("actor(1, 3)", x.actor(1, 3), 1);
        Due.is("actor(2, 4)", x.actor(2, 4), 1);
        Due.is("night(1), only who is 3 tall", x.night(1), 2);
        Due.is("told(5)", x.told(5), 0);
        Due.is("actor(1, 3)", x.actor(1, 3), 0);
        Due.is("night(20)", x.night(20), 0);
        Due.is("told(4)", x.told(4), 22);
        Due.is("told(7)", x.told(7), 1);
        x = Due.house("k1 1 0;h0;a0 1 1 2;a0 1 2 2;a0 1 3 0;");
        Due.is("night(1), one hole for three", x.night(1), 7);
        Due.is("cell(0, 0)", x.cell(0, 0), 1);
        Due.is("cell(0, 2)", x.cell(0, 2), 1);
        Due.is("actor(1, 3), nothing was left to mend", x.actor(1, 3), 2);
        Due.is("actor(2, 4), he was shown all the same", x.actor(2, 4), 1);
        x = Due.house("k1 3 0;h0;h1;h2;a0 3 0 2;");
        Due.is("night(3), shown in the last of them", x.night(3), 1);
        Due.is("actor(0, 4)", x.actor(0, 4), 1);
        Due.is("told(5)", x.told(5), 4);
    }

    /** The first one's patch makes it hang so that the second one would be shown: not in the same night. */
    private static void nightIsSettledAtOnce() {
        Due.in("promise 9, all at once");
        BaredCurtain x = Due.house("k2 3 0;c0 60 0 1;c1 40 0 1;h0;h1;h3;h5;a1 2 1 1;a0 1 1 1;");
        Due.is("told(9): 120 / 100", x.told(9), 101);
        Due.is("told(6): cell 1 hangs in row 1, cell 0 in row -1", x.told(6), 1);
        Due.is("night(1)", x.night(1), 1);
        Due.is("told(5)", x.told(5), 1 + 8 + 32);
        Due.is("told(9): 80 / 100", x.told(9), 100);
        Due.is("told(6)", x.told(6), 3);
        Due.is("night(1)", x.night(1), 3);
        Due.is("told(5)", x.told(5), 8 + 32);
        Due.is("actor(0, 4)", x.actor(0, 4), 1);
    }

    private static void nightIsRefused() {
        Due.in("promise 9, refused");
        BaredCurtain x = Due.house(HouseTest.THREE);
        String before = Due.all(x);
        Due.refused(x, before, "night(0)", x.night(0), Due.OUTSIDE);
        Due.refused(x, before, "night(21)", x.night(21), Due.OUTSIDE);
        Due.refused(x, before, "night(-1)", x.night(-1), Due.OUTSIDE);
        Due.refused(x, before, "night(the least)", x.night(Integer.MIN_VALUE), Due.OUTSIDE);
        x = new BaredCurtain();
        Due.is("night(0) without a curtain", x.night(0), Due.OUTSIDE);
        Due.is("night(20) without a curtain", x.night(20), Due.NOT);
    }

    private static void nightsHaveAnEnd() {
        Due.in("promises 9 and 13, full");
        BaredCurtain x = Due.house("k1 1 0;");
        for (int i = 0; i < 450; i++) {
            x.night(20);
        }
        Due.is("told(4)", x.told(4), 9000);
        Due.is("night(1), 9000 is not above", x.night(1), 0);
        Due.is("told(4)", x.told(4), 9001);
        String before = Due.all(x);
        Due.refused(x, before, "night(1)", x.night(1), Due.FULL);
        Due.refused(x, before, "drift(1)", x.drift(1), Due.FULL);
        Due.refused(x, before, "night(21)", x.night(21), Due.OUTSIDE);
        Due.refused(x, before, "drift(0)", x.drift(0), Due.OUTSIDE);
        Due.is("seed(0), nothing was drawn", x.seed(0), 0);
        Due.is("who(20) is tried all the same", x.who(20), 0);
        Due.is("undo()", x.undo(), 19);
        Due.is("drift(20)", x.drift(20), 0);
        Due.is("told(4)", x.told(4), 9020);
        Due.is("drift(20)", x.drift(20), Due.FULL);
    }

    private static void cut() {
        Due.in("promise 10");
        BaredCurtain x = Due.house("k5 4 0;h7;");
        Due.is("cut(19)", x.cut(19), 2);
        Due.is("cut(0)", x.cut(0), 3);
        Due.is("told(5)", x.told(5), 1 + (1 << 7) + (1 << 19));
        Due.is("told(8): 17 cells of 10", x.told(8), 3);
        String before = Due.all(x);
        Due.refused(x, before, "cut(7)", x.cut(7), Due.NOT);
        Due.refused(x, before, "cut(19)", x.cut(19), Due.NOT);
        Due.refused(x, before, "cut(20)", x.cut(20), Due.UNKNOWN);
        Due.refused(x, before, "cut(-1)", x.cut(-1), Due.UNKNOWN);
        Due.is("told(12)", x.told(12), 2);
    }

    private static void go() {
        Due.in("promise 11");
        BaredCurtain x = Due.house("k3 1 0;h2;a0 1 0 0;a1 1 0 0;");
        Due.is("go(0, 2)", x.go(0, 2), 0);
        Due.is("told(6)", x.told(6), 1);
        Due.is("go(0, 1)", x.go(0, 1), 2);
        Due.is("go(0, 1) where he is", x.go(0, 1), 1);
        Due.is("actor(0, 0)", x.actor(0, 0), 1);
        Due.is("actor(1, 0)", x.actor(1, 0), 1);
        Due.is("go(1, 0)", x.go(1, 0), 1);
        Due.is("actor(1, 0)", x.actor(1, 0), 0);
        Due.is("told(12)", x.told(12), 4);
        String before = Due.all(x);
        Due.refused(x, before, "go(2, 0)", x.go(2, 0), Due.UNKNOWN);
        Due.refused(x, before, "go(-1, 0)", x.go(-1, 0), Due.UNKNOWN);
        Due.refused(x, before, "go(0, 3)", x.go(0, 3), Due.UNKNOWN);
        Due.refused(x, before, "go(0, -1)", x.go(0, -1), Due.UNKNOWN);
    }

    private static void dress() {
        Due.in("promise 12");
        BaredCurtain x = Due.house("k1 1 0;a0 1 2 3;");
        Due.is("dress(0, 4, 9)", x.dress(0, 4, 9), 3);
        Due.is("actor(0, 2)", x.actor(0, 2), 4);
        Due.is("actor(0, 3)", x.actor(0, 3), 9);
        Due.is("dress(0, 0, 0)", x.dress(0, 0, 0), 9);
        Due.is("actor(0, 2)", x.actor(0, 2), 0);
        Due.is("actor(0, 3)", x.actor(0, 3), 0);
        String before = Due.all(x);
        Due.refused(x, before, "dress(1, 0, 0)", x.dress(1, 0, 0), Due.UNKNOWN);
        Due.refused(x, before, "dress(-1, 0, 0)", x.dress(-1, 0, 0), Due.UNKNOWN);
        Due.refused(x, before, "dress(0, 5, 0)", x.dress(0, 5, 0), Due.UNKNOWN);
        Due.refused(x, before, "dress(0, -1, 10)", x.dress(0, -1, 10), Due.UNKNOWN);
        Due.refused(x, before, "dress(0, 0, 10)", x.dress(0, 0, 10), Due.OUTSIDE);
        Due.refused(x, before, "dress(0, 0, -1)", x.dress(0, 0, -1), Due.OUTSIDE);
        Due.is("told(12)", x.told(12), 2);
    }

    /** From the seed 0 the draws of 10 are 0 8, 8 7, 8 7 (12345 / 65536 is 0, 1406932606 / 65536 is 21468). */
    private static void drift() {
        Due.in("promise 13");
        BaredCurtain x = Due.house("k5 2 0;c0 10 9 5;");
        Due.is("drift(1): cell 0, 8 is below 9", x.drift(1), 1);
        Due.is("told(4)", x.told(4), 1);
        Due.is("drift(1): cell 8, 7 is below 9", x.drift(1), 1 + 256);
        Due.is("drift(1): cell 8 has a hole", x.drift(1), 1 + 256);
        Due.is("seed(0): two draws a night", x.seed(0), 1109335178);
        Due.is("drift(3)", x.drift(3), 1 + 256);
        Due.is("seed(0)", x.seed(0), 1109335178);
        x = Due.house("k5 2 0;c0 10 8 5;a3 4 1 1;");
        Due.is("drift(1): 8 is not below 8", x.drift(1), 0);
        Due.is("drift(1): cell 8, mended in the night behind it", x.drift(1), 0);
        Due.is("cell(8, 0)", x.cell(8, 0), 1);
        Due.is("cell(8, 2)", x.cell(8, 2), 1);
        Due.is("drift(1): cell 8, of another cloth", x.drift(1), 0);
        Due.is("actor(0, 3)", x.actor(0, 3), 0);
        Due.is("actor(0, 4)", x.actor(0, 4), 0);
        x = Due.house("k5 2 0;c0 10 8 5;a3 4 0 0;");
        Due.is("drift(2)", x.drift(2), 256);
        Due.is("actor(0, 4)", x.actor(0, 4), 1);
        Due.is("told(12)", x.told(12), 1);
        x = Due.house("k5 2 0;");
        x.seed(Integer.MAX_VALUE);
        Due.is("drift(1): moths like none", x.drift(1), 0);
        long seed = Integer.MAX_VALUE;
        seed = (seed * 1103515245L + 12345L) % (1L << 31);
        seed = (seed * 1103515245L + 12345L) % (1L << 31);
        Due.is("seed(0)", x.seed(0), seed);
    }

    private static void driftIsRefused() {
        Due.in("promise 13, refused");
        BaredCurtain x = Due.house(HouseTest.THREE);
        x.seed(9);
        String before = Due.all(x);
        Due.refused(x, before, "drift(0)", x.drift(0), Due.OUTSIDE);
        Due.refused(x, before, "drift(21)", x.drift(21), Due.OUTSIDE);
        Due.is("seed(9), nothing was drawn", x.seed(9), 9);
        x = new BaredCurtain();
        Due.is("drift(21) without a curtain", x.drift(21), Due.OUTSIDE);
        Due.is("drift(20) without a curtain", x.drift(20), Due.NOT);
        Due.is("seed(0)", x.seed(0), 0);
    }

    private static void undo() {
        Due.in("promise 14");
        BaredCurtain x = Due.house(HouseTest.THREE);
        String[] before = new String[5];
        before[0] = Due.all(x);
        x.night(3);
        before[1] = Due.all(x);
        x.cut(0);
        before[2] = Due.all(x);
        x.go(0, 1);
        before[3] = Due.all(x);
        x.dress(2, 4, 7);
        before[4] = Due.all(x);
        x.drift(20);
        x.night(0);
        x.cut(-1);
        x.go(0, 9);
        x.dress(0, 0, 99);
        x.see(0, true);
        x.write(1, 1);
        int seed = x.seed(5);
        x.seed(seed);
        Due.is("told(12): what is refused is not kept", x.told(12), 5);
        x.tear();
        for (int i = 4; i >= 0; i--) {
            Due.is("undo()", x.undo(), i);
            Due.holds("undo() " + i + " is not as ahead of it", Due.all(x).equals(before[i]));
        }
        Due.is("seed(0): it stays", x.seed(0), seed);
        Due.holds("the seed went on", seed != 0);
        String now = Due.all(x);
        Due.refused(x, now, "undo()", x.undo(), Due.NOT);
        x.see(0, true);
        x.write(0, 2);
        x.night(1);
        x.undo();
        Due.is("told(10): what is seen stays", x.told(10), 1);
        Due.is("told(11): the book stays", x.told(11), 1);
    }

    private static void undoHasTwenty() {
        Due.in("promise 14, twenty");
        BaredCurtain x = Due.house("k5 1 0;a0 1 0 0;");
        for (int i = 1; i <= 33; i++) {
            x.dress(0, 0, i % 10);
            Due.is("told(12)", x.told(12), Math.min(i, 20));
        }
        for (int i = 32; i >= 13; i--) {
            Due.is("undo()", x.undo(), i - 13);
            Due.is("actor(0, 3)", x.actor(0, 3), i % 10);
        }
        Due.is("undo()", x.undo(), Due.NOT);
        Due.is("actor(0, 3)", x.actor(0, 3), 3);
        x.go(0, 4);
        Due.is("undo()", x.undo(), 0);
        Due.is("actor(0, 0)", x.actor(0, 0), 0);
    }
}
