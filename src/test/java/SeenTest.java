/** Promises 24 to 29: what is seen, who cut it, the book. */
public final class SeenTest {
    public static void main(String[] args) {
        see();
        wasCut();
        wasCutByHowItWouldHang();
        watch();
        write();
        tear();
        judge();
        Due.end("SeenTest");
    }

    private static void see() {
        Due.in("promise 24");
        BaredCurtain x = Due.house("k2 2 0;a0 1 0 0;a1 1 0 0;");
        for (int n = 1; n <= 6; n++) {
            Due.is("see(1, false)", x.see(1, false), n);
        }
        String before = Due.all(x);
        Due.refused(x, before, "see(0, true), the seventh", x.see(0, true), Due.FULL);
        Due.refused(x, before, "see(2, true)", x.see(2, true), Due.UNKNOWN);
        Due.refused(x, before, "see(-1, true)", x.see(-1, true), Due.UNKNOWN);
        Due.is("told(10)", x.told(10), 6);
        x.tear();
        before = Due.all(x);
        Due.refused(x, before, "see(2, false)", x.see(2, false), Due.UNKNOWN);
        Due.is("told(12): nothing to be undone by it", x.told(12), 0);
    }

    private static void wasCut() {
        Due.in("promise 25");
        BaredCurtain x = Due.house("k2 2 0;h1;h3;a0 1 0 0;a0 2 0 0;a1 1 0 0;");
        Due.is("wasCut(), nothing seen: all cells", x.wasCut(), 15);
        x.see(0, false);
        Due.is("wasCut()", x.wasCut(), 2 + 4 + 8);
        x.see(1, true);
        Due.is("wasCut()", x.wasCut(), 4);
        x.go(1, 1);
        Due.is("wasCut(), the actors as now", x.wasCut(), 2 + 8);
        x.see(2, false);
        Due.is("wasCut()", x.wasCut(), 8);
        x.see(0, true);
        Due.is("wasCut(), nothing fits", x.wasCut(), 0);
        x = Due.house("k5 4 0;a4 4 0 0;a4 3 0 0;");
        Due.is("wasCut(), twenty cells", x.wasCut(), 1048575);
        x.see(0, true);
        x.see(1, false);
        Due.is("wasCut(), the last cell", x.wasCut(), 1 << 19);
        Due.is("wasCut() without a curtain", new BaredCurtain().wasCut(), 0);
    }

    /** The right side is patched with what weighs nothing: any one hole hangs by the left side's weight. */
    private static void wasCutByHowItWouldHang() {
        Due.in("promise 25, by how it would hang");
        BaredCurtain x = Due.house("k2 2 0;c0 60 0 1;c1 0 0 1;h1;h3;a1 3 1 2;a1 2 1 0;a0 1 1 0;");
        x.night(2);
        Due.is("told(9): 120 / 100", x.told(9), 101);
        x.see(1, true);
        Due.is("wasCut(): cell 1 would hang in row 1, cell 3 in row 2", x.wasCut(), 2);
        x.tear();
        x.see(2, true);
        Due.is("wasCut(): without cell 0 it hangs level", x.wasCut(), 1);
        x.cut(2);
        Due.is("wasCut(): one hole alone, whatever there is now", x.wasCut(), 1);
    }

    private static void watch() {
        Due.in("promise 26");
        BaredCurtain x = Due.house("k2 2 0;a0 1 0 0;a0 2 0 0;a1 1 0 0;a1 2 0 0;");
        Due.is("watch(): 3, 2, 3, 2 alike", x.watch(), 1);
        x.see(1, true);
        Due.is("wasCut()", x.wasCut(), 1 + 4);
        Due.is("watch()", x.watch(), 0);
        x.see(0, false);
        Due.is("wasCut()", x.wasCut(), 4);
        Due.is("watch(), one cell", x.watch(), Due.NONE);
        x.see(0, true);
        Due.is("watch(), no cell", x.watch(), Due.NONE);
        x = Due.house("k2 2 0;");
        Due.is("watch(), no actors", x.watch(), Due.NONE);
        x = Due.house("k1 2 0;a0 4 0 0;");
        Due.is("watch(), he is always shown", x.watch(), Due.NONE);
        x = Due.house("k1 2 0;a0 4 0 0;a0 1 0 0;a0 1 0 0;");
        Due.is("watch(), of like ones the least", x.watch(), 1);
    }

    private static void write() {
        Due.in("promise 27");
        BaredCurtain x = Due.house("k2 2 0;a0 1 0 0;a1 1 0 0;");
        String before = Due.all(x);
        Due.refused(x, before, "write(2, 0)", x.write(2, 0), Due.UNKNOWN);
        Due.refused(x, before, "write(-1, 10)", x.write(-1, 10), Due.UNKNOWN);
        Due.refused(x, before, "write(0, 10)", x.write(0, 10), Due.OUTSIDE);
        Due.refused(x, before, "write(0, -1)", x.write(0, -1), Due.OUTSIDE);
        for (int n = 1; n <= 15; n++) {
            Due.is("write(1, " + n % 10 + ")", x.write(1, n % 10), n);
        }
        before = Due.all(x);
        Due.refused(x, before, "write(0, 9), the sixteenth", x.write(0, 9), Due.FULL);
        Due.refused(x, before, "write(0, 10), full", x.write(0, 10), Due.OUTSIDE);
        Due.refused(x, before, "write(9, 10), full", x.write(9, 10), Due.UNKNOWN);
        Due.is("told(11)", x.told(11), 15);
        Due.is("told(12): nothing to be undone by it", x.told(12), 0);
    }

    private static void tear() {
        Due.in("promise 28");
        BaredCurtain x = Due.house("k2 2 0;a0 1 0 0;");
        x.see(0, true);
        x.see(0, false);
        x.write(0, 0);
        x.write(0, 1);
        x.write(0, 2);
        Due.is("tear()", x.tear(), 5);
        Due.is("told(10)", x.told(10), 0);
        Due.is("told(11)", x.told(11), 0);
        Due.is("wasCut()", x.wasCut(), 15);
        Due.is("judge()", x.judge(), Due.NONE);
        Due.is("tear()", x.tear(), 0);
    }

    private static void judge() {
        Due.in("promise 29");
        BaredCurtain x = Due.house("k2 1 0;h0;a0 1 0 2;a1 1 0 9;");
        Due.is("judge(), no book", x.judge(), Due.NONE);
        x.write(1, 9);
        x.write(0, 2);
        x.write(0, 1);
        x.write(1, 9);
        Due.is("judge(): the entry's number", x.judge(), 2);
        x.night(1);
        Due.is("judge(): as it is now", x.judge(), 1);
        x.dress(1, 0, 8);
        Due.is("judge()", x.judge(), 0);
        x.undo();
        Due.is("judge()", x.judge(), 1);
        x.tear();
        x.write(0, 1);
        Due.is("judge()", x.judge(), Due.NONE);
    }
}
