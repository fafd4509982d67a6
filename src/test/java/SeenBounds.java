/** Promises 24 to 29: the edges of what is SEEN and of THE BOOK. */
final class SeenBounds {
    private SeenBounds() {
    }

    static void test() {
        seenSix();
        cutByNothingSeen();
        cutByNone();
        cutAlone();
        cutAsNow();
        cutByHowItWouldHang();
        watchTheBest();
        watchOfLikeOnes();
        watchNone();
        entries();
        bookIsFull();
        torn();
        wrongFirst();
        wrongNone();
        wrongNow();
    }

    private static void seenSix() {
        Sentences.of(24, "SEEN: how much. UNKNOWN, FULL (6).");
        BaredCurtain x = Due.house("k1 1 0;a0 1 0 0;");
        for (int n = 1; n <= 6; n++) {
            Due.is("see(0, true)", x.see(0, true), n);
        }
        Due.is("see(0, true), the seventh", x.see(0, true), Due.FULL);
        Due.is("see(0, false), the seventh", x.see(0, false), Due.FULL);
        Due.is("see(1, true), the first refusal", x.see(1, true), Due.UNKNOWN);
        Due.is("see(-1, true), the first refusal", x.see(-1, true), Due.UNKNOWN);
        Due.is("see(the greatest, true)", x.see(Integer.MAX_VALUE, true), Due.UNKNOWN);
        Due.is("told(10)", x.told(10), 6);
        Due.is("wasCut(), the seventh is not seen", x.wasCut(), 1);
        x.tear();
        Due.is("see(0, false), room again", x.see(0, false), 1);
        Due.is("wasCut(), nothing of before", x.wasCut(), 0);
    }

    private static void cutByNothingSeen() {
        Sentences.of(25, "CUT: CELLS (a SET) with such a HOLE all that is SEEN is so.");
        Due.is("wasCut(), nothing seen", Due.house("k5 4 0;").wasCut(), 1048575);
        Due.is("wasCut(), nothing seen", Due.house("k1 1 0;").wasCut(), 1);
        Due.is("wasCut(), no curtain", new BaredCurtain().wasCut(), 0);
        BaredCurtain x = Due.house("k5 4 0;a4 4 0 0;a4 3 0 0;");
        x.see(0, true);
        Due.is("wasCut(), a column", x.wasCut(), (1 << 4) + (1 << 9) + (1 << 14) + (1 << 19));
        x.see(1, false);
        Due.is("wasCut(), the last cell", x.wasCut(), 1 << 19);
    }

    private static void cutByNone() {
        Sentences.of(25, "an ACTOR was SHOWN, or not");
        BaredCurtain x = Due.house("k2 1 0;a0 1 0 0;a1 1 0 0;");
        x.see(0, true);
        Due.is("wasCut()", x.wasCut(), 1);
        x.see(0, false);
        Due.is("wasCut(), both cannot be so", x.wasCut(), 0);
        x.tear();
        x.see(0, true);
        x.see(1, true);
        Due.is("wasCut(), one hole for two columns", x.wasCut(), 0);
        x.tear();
        x.see(0, false);
        x.see(1, false);
        Due.is("wasCut(), there was one", x.wasCut(), 0);
    }

    private static void cutAlone() {
        Sentences.of(25, "when there was one HOLE alone, which was cut");
        BaredCurtain x = Due.house("k2 2 0;h0;h1;h2;h3;a0 1 0 0;a1 1 0 0;");
        x.see(0, true);
        Due.is("wasCut(), whatever holes there are", x.wasCut(), 1);
        x.see(1, false);
        Due.is("wasCut()", x.wasCut(), 1);
        // As it hangs now, LEANS is 1; with one hole alone it is 0.
        x = Due.house("k2 3 0;c0 99 0 1;h1;h3;a1 1 0 0;");
        Due.is("told(9)", x.told(9), 101);
        x.see(0, true);
        Due.is("wasCut(), by how it hung then", x.wasCut(), 2);
    }

    private static void cutAsNow() {
        Sentences.of(25, "(CLOTHS, ACTORS as now)");
        BaredCurtain x = Due.house("k3 1 0;a0 1 0 0;");
        x.see(0, true);
        Due.is("wasCut()", x.wasCut(), 1);
        x.go(0, 2);
        Due.is("wasCut(), where he stands now", x.wasCut(), 4);
        x.undo();
        Due.is("wasCut()", x.wasCut(), 1);
    }

    /** Left weighs 120 with no hole, right 0: a hole there hangs one row higher; one on the left hangs level. */
    private static void cutByHowItWouldHang() {
        Sentences.of(25, "CELLS (a SET) with such a HOLE");
        BaredCurtain x = Due.house("k2 2 0;c0 60 0 1;c1 0 0 1;h1;h3;a1 3 1 2;a1 1 1 0;a0 1 1 0;");
        x.night(2);
        Due.is("told(5)", x.told(5), 0);
        Due.is("told(9)", x.told(9), 101);
        x.see(1, true);
        Due.is("wasCut(), both hang above him", x.wasCut(), 0);
        x.tear();
        x.see(2, true);
        Due.is("wasCut(), cell 0 in row 0", x.wasCut(), 1);
    }

    private static void watchTheBest() {
        Sentences.of(26, "the greatest part that is alike is least");
        BaredCurtain x = Due.house("k1 4 0;a0 1 0 0;a0 2 0 0;a0 3 0 0;a0 4 0 0;");
        Due.is("watch(): 3, 2, 3, 4 of four alike", x.watch(), 1);
        x.see(1, true);
        Due.is("watch(): 1, 2, 2, 2 of two", x.watch(), 0);
        x.tear();
        x.see(1, false);
        Due.is("watch(): 2, 2, 1, 2 of two", x.watch(), 2);
    }

    private static void watchOfLikeOnes() {
        Sentences.of(26, "of like ones the least; NONE: none parts them");
        Due.is("watch(), both part by two", Due.house("k2 2 0;a1 2 0 0;a0 2 0 0;").watch(), 0);
        Due.is("watch(), 1 is as good as 3", Due.house("k1 4 0;a0 3 0 0;a0 1 0 0;").watch(), 0);
        Due.is("watch(), the last of five", Due.house("k1 4 0;a0 4 0 0;a0 4 0 0;a0 4 0 0;a0 4 0 0;a0 1 0 0;").watch(), 4);
    }

    private static void watchNone() {
        Sentences.of(26, "NONE: none parts them");
        Due.is("watch(), no curtain", new BaredCurtain().watch(), Due.NONE);
        Due.is("watch(), nobody", Due.house("k5 4 0;").watch(), Due.NONE);
        Due.is("watch(), one cell", Due.house("k1 1 0;a0 1 0 0;").watch(), Due.NONE);
        Due.is("watch(), always shown", Due.house("k1 4 0;a0 4 0 0;").watch(), Due.NONE);
        BaredCurtain x = Due.house("k2 1 0;a0 1 0 0;a1 1 0 0;");
        Due.is("watch(), two cells", x.watch(), 0);
        x.see(0, true);
        Due.is("watch(), one is left", x.watch(), Due.NONE);
        x.see(1, true);
        Due.is("watch(), none is left", x.watch(), Due.NONE);
    }

    private static void entries() {
        Sentences.of(27, "An entry behind THE BOOK (0 .. 9): how many. UNKNOWN, OUTSIDE, FULL (15).");
        BaredCurtain x = Due.house("k1 1 0;a0 1 0 0;a0 1 0 9;");
        Due.is("write(0, 0)", x.write(0, 0), 1);
        Due.is("write(1, 9)", x.write(1, 9), 2);
        Due.is("write(0, -1)", x.write(0, -1), Due.OUTSIDE);
        Due.is("write(0, 10)", x.write(0, 10), Due.OUTSIDE);
        Due.is("write(0, the least)", x.write(0, Integer.MIN_VALUE), Due.OUTSIDE);
        Due.is("write(0, the greatest)", x.write(0, Integer.MAX_VALUE), Due.OUTSIDE);
        Due.is("write(2, 0)", x.write(2, 0), Due.UNKNOWN);
        Due.is("write(-1, 0)", x.write(-1, 0), Due.UNKNOWN);
        Due.is("write(2, 10), the first refusal", x.write(2, 10), Due.UNKNOWN);
        Due.is("told(11)", x.told(11), 2);
        Due.is("judge()", x.judge(), Due.NONE);
    }

    private static void bookIsFull() {
        Sentences.of(27, "THE BOOK (15 at most)");
        BaredCurtain x = Due.house("k1 1 0;a0 1 0 9;");
        for (int n = 1; n <= 15; n++) {
            Due.is("write(0, 9)", x.write(0, 9), n);
        }
        Due.is("write(0, 0), the sixteenth", x.write(0, 0), Due.FULL);
        Due.is("write(0, 10), the first refusal", x.write(0, 10), Due.OUTSIDE);
        Due.is("write(1, 0), the first refusal", x.write(1, 0), Due.UNKNOWN);
        Due.is("told(11)", x.told(11), 15);
        Due.is("judge(), the sixteenth is not there", x.judge(), Due.NONE);
        x.tear();
        Due.is("write(0, 0), room again", x.write(0, 0), 1);
        Due.is("judge()", x.judge(), 0);
    }

    private static void torn() {
        Sentences.of(28, "Nothing SEEN, THE BOOK is empty: how much both had.");
        BaredCurtain x = Due.house("k1 1 0;a0 1 0 0;");
        Due.is("tear(), nothing", x.tear(), 0);
        x.see(0, false);
        Due.is("tear(), one seen", x.tear(), 1);
        x.write(0, 5);
        Due.is("tear(), one entry", x.tear(), 1);
        for (int n = 0; n < 15; n++) {
            x.see(0, false);
            x.write(0, 5);
        }
        Due.is("tear(), all that both hold", x.tear(), 21);
        Due.is("tear(), nothing", x.tear(), 0);
        Due.is("told(10)", x.told(10), 0);
        Due.is("told(11)", x.told(11), 0);
        Due.is("wasCut()", x.wasCut(), 1);
        Due.is("judge()", x.judge(), Due.NONE);
    }

    private static void wrongFirst() {
        Sentences.of(29, "WRONG: the first that is otherwise now");
        BaredCurtain x = Due.house("k1 1 0;a0 1 0 3;");
        x.write(0, 4);
        x.write(0, 2);
        Due.is("judge(), the first of two", x.judge(), 0);
        x.tear();
        for (int n = 0; n < 14; n++) {
            x.write(0, 3);
        }
        Due.is("judge()", x.judge(), Due.NONE);
        x.write(0, 2);
        Due.is("judge(), the last of fifteen", x.judge(), 14);
    }

    private static void wrongNone() {
        Sentences.of(29, "WRONG; NONE.");
        Due.is("judge(), no curtain", new BaredCurtain().judge(), Due.NONE);
        BaredCurtain x = Due.house("k1 1 0;a0 1 0 0;a0 1 0 9;");
        Due.is("judge(), no book", x.judge(), Due.NONE);
        x.write(0, 0);
        x.write(1, 9);
        Due.is("judge(), all is so", x.judge(), Due.NONE);
    }

    private static void wrongNow() {
        Sentences.of(29, "the first that is otherwise now; NONE");
        BaredCurtain x = Due.house("k1 1 0;h0;a0 1 0 1;");
        x.write(0, 1);
        Due.is("judge()", x.judge(), Due.NONE);
        x.night(1);
        Due.is("judge(), one less", x.judge(), 0);
        x.undo();
        Due.is("judge()", x.judge(), Due.NONE);
        x.dress(0, 4, 1);
        Due.is("judge(), another cloth, as many", x.judge(), Due.NONE);
    }
}
