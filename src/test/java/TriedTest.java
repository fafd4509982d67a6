/** Promises 15 to 23: all that is tried; nothing changes by it. */
public final class TriedTest {
    public static void main(String[] args) {
        who();
        wholeBy();
        stands();
        standsBaresFewest();
        standsByHowItHangs();
        standsIsRefused();
        hidden();
        cannot();
        sewing();
        sewingIsRefused();
        least();
        moths();
        thread();
        nothingChanges();
        Due.end("TriedTest");
    }

    private static void who() {
        Due.in("promise 15");
        BaredCurtain x = Due.house("k1 4 0;h0;h1;h2;h3;a0 4 0 2;a0 2 0 0;");
        Due.is("who(0)", x.who(0), 3);
        Due.is("who(1)", x.who(1), 3);
        Due.is("who(2): a hole in row 2 is too high for one", x.who(2), 1);
        Due.is("who(20): nothing is left to mend with", x.who(20), 1);
        x.dress(0, 0, 4);
        Due.is("who(3)", x.who(3), 1);
        Due.is("who(4)", x.who(4), 0);
        Due.is("who(-1)", x.who(-1), Due.OUTSIDE);
        Due.is("who(21)", x.who(21), Due.OUTSIDE);
        Due.is("who(21) without a curtain", new BaredCurtain().who(21), Due.OUTSIDE);
    }

    private static void wholeBy() {
        Due.in("promise 16");
        BaredCurtain x = Due.house("k1 4 0;h0;h1;h2;h3;a0 4 0 4;");
        Due.is("wholeBy()", x.wholeBy(), 4);
        x.night(3);
        Due.is("wholeBy()", x.wholeBy(), 1);
        x.night(1);
        Due.is("wholeBy()", x.wholeBy(), 0);
        x = Due.house("k1 4 0;h0;h1;h2;h3;a0 4 0 3;");
        Due.is("wholeBy(), one piece too few", x.wholeBy(), Due.NONE);
        x = Due.house("k1 4 0;h0;h1;h2;h3;a0 3 0 9;");
        Due.is("wholeBy(), one row too high", x.wholeBy(), Due.NONE);
        x = Due.house("k5 4 0;h0;h5;h10;h15;h4;h9;h14;h19;a0 4 0 9;a4 4 0 9;a4 4 0 9;");
        Due.is("wholeBy()", x.wholeBy(), 4);
        x = Due.house("k1 1 0;a0 1 0 0;");
        Due.is("wholeBy(), no hole", x.wholeBy(), 0);
    }

    private static void standsAt(BaredCurtain x, int a, int n, int bared, int... columns) {
        Due.is("stands(" + a + ", " + n + ", -1)", x.stands(a, n, -1), bared);
        for (int i = 0; i < columns.length; i++) {
            Due.is("stands(" + a + ", " + n + ", " + i + ")", x.stands(a, n, i), columns[i]);
        }
    }

    private static void stands() {
        Due.in("promise 17");
        BaredCurtain x = Due.house("k2 1 0;h0;h1;a0 1 0 1;a0 1 1 1;");
        standsAt(x, 0, 1, 0, 0, 1);
        standsAt(x, 1, 20, 0, 0, 1);
        x.dress(0, 0, 0);
        standsAt(x, 0, 20, Due.NONE, Due.NONE, Due.NONE);
        x = Due.house("k1 2 0;h0;h1;a0 2 0 2;");
        standsAt(x, 0, 1, Due.NONE, Due.NONE);
        standsAt(x, 0, 2, 0, 0);
        x = Due.house("k1 2 0;h0;h1;a0 1 0 2;");
        standsAt(x, 0, 20, Due.NONE, Due.NONE);
        x = Due.house("k3 1 0;a2 1 0 0;a1 1 0 0;");
        standsAt(x, 1, 1, 0, 0, 0);
        x = Due.house("k5 1 0;h4;a0 1 0 0;a0 1 0 1;");
        standsAt(x, 0, 1, 0, 0, 4);
    }

    private static void standsBaresFewest() {
        Due.in("promise 17, fewest bared");
        BaredCurtain x = Due.house("k2 1 0;h0;a0 1 0 1;a0 1 0 0;");
        standsAt(x, 0, 1, 0, 0, 1);
        standsAt(x, 1, 1, 0, 0, 1);
        x = Due.house("k1 1 0;h0;a0 1 0 1;a0 1 0 0;");
        standsAt(x, 0, 1, 1, 0, 0);
        standsAt(x, 1, 1, Due.NONE, Due.NONE, Due.NONE);
        x = Due.house("k1 3 0;h0;h1;h2;a0 3 0 3;a0 2 0 0;");
        standsAt(x, 0, 3, 2, 0, 0);
        x.night(3);
        x.cut(0);
        x.dress(0, 0, 1);
        standsAt(x, 0, 1, 1, 0, 0);
        x = Due.house("k2 2 0;h0;h2;h1;h3;a0 2 0 2;a0 2 0 2;a0 1 0 0;");
        standsAt(x, 0, 2, 1, 0, 1, 0);
        standsAt(x, 2, 2, Due.NONE, Due.NONE, Due.NONE, Due.NONE);
    }

    /** LEANS is 1 and hides cell 0 in row -1, until a patch on the right makes it hang level. */
    private static void standsByHowItHangs() {
        Due.in("promise 17, by how it hangs");
        BaredCurtain x = Due.house("k2 3 0;c0 60 0 1;c1 40 0 1;h0;h1;h3;h5;a0 2 1 1;a0 3 1 9;a0 1 1 1;");
        standsAt(x, 0, 1, Due.NONE, Due.NONE, Due.NONE, Due.NONE);
        standsAt(x, 0, 2, 0, 1, 1, 0);
        standsAt(x, 0, 3, 0, 0, 1, 0);
        standsAt(x, 2, 3, 0, 0, 1, 0);
        x.dress(0, 1, 0);
        standsAt(x, 0, 3, Due.NONE, Due.NONE, Due.NONE, Due.NONE);
        standsAt(x, 2, 3, 1, 0, 1, 0);
    }

    private static void standsIsRefused() {
        Due.in("promise 17, refused");
        BaredCurtain x = Due.house("k2 1 0;h0;a0 1 0 1;a0 1 0 1;");
        Due.is("stands(2, 1, 0)", x.stands(2, 1, 0), Due.UNKNOWN);
        Due.is("stands(-1, 1, 0)", x.stands(-1, 1, 0), Due.UNKNOWN);
        Due.is("stands(0, 1, 2)", x.stands(0, 1, 2), Due.UNKNOWN);
        Due.is("stands(0, 1, -2)", x.stands(0, 1, -2), Due.UNKNOWN);
        Due.is("stands(0, 0, 2)", x.stands(0, 0, 2), Due.UNKNOWN);
        Due.is("stands(0, 0, -1)", x.stands(0, 0, -1), Due.OUTSIDE);
        Due.is("stands(0, 21, 1)", x.stands(0, 21, 1), Due.OUTSIDE);
    }

    private static void hidden() {
        Due.in("promise 18");
        BaredCurtain x = Due.house("k3 4 0;c0 99 0 1;h1;h2;h5;h8;h11;");
        Due.is("hidden(): rows 4, 5, 6", x.hidden(), (1 << 5) + (1 << 8) + (1 << 11));
        x.cut(0);
        Due.is("hidden(): LEANS is 2, cell 0 in row -2", x.hidden(), 1 + (1 << 8) + (1 << 11));
        x.cut(9);
        Due.is("hidden(): LEANS is 1, cell 9 in row 2", x.hidden(), 1 + (1 << 11));
        x = Due.house("k1 1 0;h0;");
        Due.is("hidden()", x.hidden(), 0);
        x = Due.house("k2 1 0;");
        Due.is("hidden(), no hole", x.hidden(), 0);
    }

    private static void cannot() {
        Due.in("promise 19");
        BaredCurtain x = Due.house("k5 2 0;h0;h5;h6;h2;h4;a0 1 0 1;a1 1 0 0;a3 1 0 1;a1 1 0 0;");
        Due.is("cannot()", x.cannot(), 2 + 4 + 16);
        x.dress(3, 0, 1);
        Due.is("cannot()", x.cannot(), 4 + 16);
        x.go(2, 4);
        Due.is("cannot()", x.cannot(), 4);
        x.go(0, 2);
        Due.is("cannot()", x.cannot(), 1);
        x = Due.house("k5 2 0;");
        Due.is("cannot(), no hole", x.cannot(), 0);
    }

    private static void sewing() {
        Due.in("promise 20");
        BaredCurtain x = Due.house("k2 4 0;c0 0 0 2;c1 0 0 3;h0;h1;a0 1 1 1;a1 1 1 1;");
        x.night(1);
        Due.is("sewing(1), no hole", x.sewing(1), 0);
        for (int c = 0; c < 5; c++) {
            x.cut(c);
        }
        Due.is("sewing(1): 3 3 2 2 2", x.sewing(1), 12);
        Due.is("sewing(2)", x.sewing(2), 6);
        Due.is("sewing(3)", x.sewing(3), 5);
        x = Due.house("k4 2 0;c0 0 0 60;h0;h1;h2;h3;h4;h5;h6;h7;");
        Due.is("sewing(1): eight of 60", x.sewing(1), 480);
        Due.is("sewing(2)", x.sewing(2), 240);
        Due.is("sewing(3)", x.sewing(3), 180);
        x = Due.house("k4 2 0;h7;");
        Due.is("sewing(3): one tailor sews it alone", x.sewing(3), 5);
        x.cut(6);
        x.cut(5);
        x.cut(4);
        Due.is("sewing(3)", x.sewing(3), 10);
    }

    private static void sewingIsRefused() {
        Due.in("promise 20, refused");
        BaredCurtain x = Due.house("k3 3 0;h0;h1;h2;h3;h4;h5;h6;h7;");
        Due.is("sewing(0)", x.sewing(0), Due.OUTSIDE);
        Due.is("sewing(4)", x.sewing(4), Due.OUTSIDE);
        Due.is("sewing(3), eight", x.sewing(3), 15);
        x.cut(8);
        Due.is("sewing(3), nine", x.sewing(3), Due.NOT);
        Due.is("sewing(4), nine", x.sewing(4), Due.OUTSIDE);
        Due.is("sewing(-1) without a curtain", new BaredCurtain().sewing(-1), Due.OUTSIDE);
    }

    private static void least() {
        Due.in("promise 21");
        BaredCurtain x = Due.house("k5 1 0;c0 49 0 1;c1 51 0 1;c2 0 0 1;c4 99 0 1;h1;h2;h3;");
        Due.is("least(1, 1): 98 / 50", x.least(1, 1), 0);
        Due.is("least(0, 2): 147 / 50", x.least(0, 2), 1);
        Due.is("least(0, 3): 196 / 50", x.least(0, 3), 2);
        Due.is("least(1, 3): 149 and 200 / 50", x.least(1, 3), 2);
        Due.is("least(4, 7): 395 / 50", x.least(4, 7), 3);
        Due.is("least(4, 8)", x.least(4, 8), Due.NONE);
        Due.is("least(2, 2)", x.least(2, 2), Due.NONE);
        Due.is("least(2, 0)", x.least(2, 0), 0);
        Due.is("least(0, 99)", x.least(0, 99), Due.NONE);
        Due.is("least(5, 0)", x.least(5, 0), Due.UNKNOWN);
        Due.is("least(-1, 0)", x.least(-1, 0), Due.UNKNOWN);
        Due.is("least(5, 100)", x.least(5, 100), Due.UNKNOWN);
        Due.is("least(0, -1)", x.least(0, -1), Due.OUTSIDE);
        Due.is("least(0, 100)", x.least(0, 100), Due.OUTSIDE);
        Due.is("least(4, 1) without a curtain", new BaredCurtain().least(4, 1), Due.NONE);
    }

    private static void moths() {
        Due.in("promise 22");
        BaredCurtain x = Due.house("k2 2 0;c0 10 0 5;c1 10 3 5;c2 10 9 5;h0;h3;a0 1 1 1;a1 2 2 1;");
        Due.is("moths(): all M are 0", x.moths(), 0);
        x.night(1);
        Due.is("moths(): cell 3 of cloth 2", x.moths(), 8);
        x.cut(3);
        Due.is("moths(): cell 0 of cloth 1", x.moths(), 1);
        x.cut(0);
        Due.is("moths(): a hole is no cloth", x.moths(), 0);
        x = Due.house("k2 2 1;c1 10 1 5;h2;");
        Due.is("moths()", x.moths(), 1 + 2 + 8);
    }

    private static void thread() {
        Due.in("promise 23");
        BaredCurtain x = new BaredCurtain();
        Due.is("thread(0, 0)", x.thread(0, 0), 1000000000);
        Due.is("thread(60, 0)", x.thread(60, 0), 1000000000);
        Due.is("thread(1, 100)", x.thread(1, 100), 0);
        Due.is("thread(60, 100)", x.thread(60, 100), 0);
        Due.is("thread(1, 99)", x.thread(1, 99), 10000000);
        Due.is("thread(5, 99)", x.thread(5, 99), 0);
        Due.is("thread(3, 33)", x.thread(3, 33), 300763000);
        Due.is("thread(10, 33): cut each time", x.thread(10, 33), 18228377);
        Due.is("thread(60, 1): cut each time", x.thread(60, 1), 547156620);
        Due.is("thread(-1, 0)", x.thread(-1, 0), Due.OUTSIDE);
        Due.is("thread(61, 0)", x.thread(61, 0), Due.OUTSIDE);
        Due.is("thread(0, -1)", x.thread(0, -1), Due.OUTSIDE);
        Due.is("thread(0, 101)", x.thread(0, 101), Due.OUTSIDE);
    }

    private static void nothingChanges() {
        Due.in("promises 15 to 23, nothing changes");
        BaredCurtain x = Due.house(HouseTest.THREE);
        x.seed(41);
        x.night(1);
        x.dress(2, 1, 2);
        x.see(0, true);
        x.write(2, 2);
        String before = Due.all(x);
        x.who(20);
        x.wholeBy();
        x.stands(0, 20, -1);
        x.stands(2, 3, 1);
        x.hidden();
        x.cannot();
        x.sewing(3);
        x.least(4, 50);
        x.moths();
        x.thread(9, 9);
        x.wasCut();
        x.watch();
        x.judge();
        Due.holds("something changed", Due.all(x).equals(before));
        Due.is("seed(0)", x.seed(0), 41);
        Due.is("undo()", x.undo(), 1);
    }
}
