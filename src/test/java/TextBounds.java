/** Section 1 and its FAULTS: every bound that a text can pass, by one and by far. */
final class TextBounds {
    private static final String ONE = "k1 1 0;";
    private static final String LAST = "k5 4 4;";
    private static final String ACTOR = "a0 1 0 0;";
    private static final String FIVE = ACTOR + ACTOR + ACTOR + ACTOR + ACTOR;

    private TextBounds() {
    }

    static void test() {
        letters();
        curtain();
        curtainComesFirst();
        cloth();
        untoldCloths();
        holes();
        actors();
        figures();
        words();
        blanks();
        neighbours();
        firstLetter();
        theEnd();
        theEndBehindALongerText();
        theLeast();
        cannotStand();
        wrongNumber();
        oneTooMany();
        toldAgain();
        empty();
    }

    private static BaredCurtain fine(String text, int actors) {
        BaredCurtain x = new BaredCurtain();
        Due.feed(x, text);
        Due.is("house() of \"" + text + "\"", x.house(), actors);
        Due.is("fault() of \"" + text + "\"", x.fault(), Due.NONE);
        return x;
    }

    private static void faulty(String text, int kind, int at) {
        BaredCurtain x = new BaredCurtain();
        Due.feed(x, text);
        Due.is("house() of \"" + text + "\"", x.house(), -10 - kind);
        Due.is("fault() of \"" + text + "\"", x.fault(), at);
        Due.is("told(0) behind \"" + text + "\"", x.told(0), 0);
    }

    /** A number that may be least .. most stands between head and tail; all about the bounds is tried. */
    private static void bounds(String head, int least, int most, String tail, int actors) {
        fine(head + least + tail, actors);
        fine(head + most + tail, actors);
        int at = head.length();
        if (least > 0) {
            faulty(head + (least - 1) + tail, 2, at);
        } else {
            faulty(head + "-1" + tail, 1, at);
        }
        faulty(head + (most + 1) + tail, 2, at);
        faulty(head + "999" + tail, 2, at);
        faulty(head + "1000" + tail, 2, at);
        faulty(head + "4294967297" + tail, 2, at);
    }

    private static void letters() {
        Sentences.of(3, "THE HOUSE is told in a text (240 letters at most)");
        String full = ONE + " ".repeat(240 - ONE.length() - ACTOR.length()) + ACTOR;
        fine(full, 1);
        BaredCurtain x = new BaredCurtain();
        Due.feed(x, full);
        Due.is("feed(107), the 241st", x.feed('k'), Due.FULL);
        Due.is("house(), without it", x.house(), 1);
        faulty(ONE + " ".repeat(232) + "k", 3, 239);
        faulty("k1 1 0" + " ".repeat(234), 1, 240);
    }

    private static void curtain() {
        Sentences.of(3, "THE CURTAIN has W COLUMNS, 1 .. 5,");
        bounds("k", 1, 5, " 1 0;", 0);
        Due.is("told(0)", fine("k1 4 0;", 0).told(0), 1);
        Due.is("told(0)", fine(LAST, 0).told(0), 5);
        Sentences.of(3, "G rows, 1 .. 4, row 0 at the floor");
        bounds("k5 ", 1, 4, " 0;", 0);
        Due.is("told(1)", fine("k5 1 0;", 0).told(1), 1);
        Due.is("told(1)", fine(LAST, 0).told(1), 4);
        Due.is("cell(0, 3): row 0", fine(LAST, 0).cell(0, 3), 100);
        Due.is("cell(19, 3): row 3", fine(LAST, 0).cell(19, 3), 103);
        Sentences.of(3, "all of CLOTH K, 0 .. 4");
        bounds("k5 4 ", 0, 4, ";", 0);
        for (int c = 0; c < 20; c++) {
            Due.is("cell(" + c + ", 0)", fine(LAST, 0).cell(c, 0), 4);
            Due.is("cell(" + c + ", 0)", fine("k5 4 0;", 0).cell(c, 0), 0);
        }
        Due.is("cell(20, 0)", fine(LAST, 0).cell(20, 0), Due.UNKNOWN);
        Sentences.of(3, "CELL: row times W and COLUMN");
        for (int c = 0; c < 6; c++) {
            BaredCurtain x = fine("k3 2 0;h" + c + ";a" + c % 3 + " " + (c / 3 + 1) + " 0 0;a" + c % 3 + " 1 0 0;", 2);
            Due.is("told(6), a hole in cell " + c, x.told(6), c < 3 ? 3 : 1);
        }
    }

    private static void curtainComesFirst() {
        Sentences.of(3, "first, once)");
        faulty("h0;" + ONE, 1, 0);
        faulty(ACTOR + ONE, 1, 0);
        faulty("c0 0 0 1;" + ONE, 1, 0);
        faulty(ONE + ONE, 3, 7);
        faulty(ONE + FIVE + "k", 3, 52);
    }

    private static void cloth() {
        Sentences.of(3, "'c' K V M S ';'");
        bounds(ONE + "c", 0, 4, " 0 0 1;", 0);
        Sentences.of(3, "CLOTH K weighs V, 0 .. 99");
        bounds(ONE + "c4 ", 0, 99, " 0 1;", 0);
        Due.is("cloth(4, 0)", fine(ONE + "c4 99 0 1;", 0).cloth(4, 0), 99);
        Due.is("cloth(4, 0)", fine(ONE + "c4 0 0 1;", 0).cloth(4, 0), 0);
        Sentences.of(3, "MOTHS like it by M, 0 .. 9");
        bounds(ONE + "c4 0 ", 0, 9, " 1;", 0);
        Due.is("cloth(4, 1)", fine(ONE + "c4 0 9 1;", 0).cloth(4, 1), 9);
        Due.is("cloth(4, 1)", fine(ONE + "c4 0 0 1;", 0).cloth(4, 1), 0);
        Sentences.of(3, "a patch of it is SEWN in S MINUTES, 1 .. 60");
        bounds(ONE + "c4 0 0 ", 1, 60, ";", 0);
        Due.is("cloth(4, 2)", fine(ONE + "c4 0 0 60;", 0).cloth(4, 2), 60);
        Due.is("cloth(4, 2)", fine(ONE + "c4 0 0 1;", 0).cloth(4, 2), 1);
    }

    private static void untoldCloths() {
        Sentences.of(3, "10, 0, 5 untold; each once");
        int[] untold = {10, 0, 5};
        BaredCurtain x = fine(ONE + "c0 1 2 3;c4 1 2 3;", 0);
        for (int k = 0; k < 5; k++) {
            for (int what = 0; what < 3; what++) {
                int due = k == 0 || k == 4 ? what + 1 : untold[what];
                Due.is("cloth(" + k + ", " + what + ")", x.cloth(k, what), due);
            }
        }
        fine(ONE + "c0 0 0 1;c1 0 0 1;c2 0 0 1;c3 0 0 1;c4 0 0 1;", 0);
        for (int k = 0; k < 5; k++) {
            faulty(ONE + "c" + k + " 10 0 5;c" + k + " 10 0 5;", 4, 18);
        }
        x = fine("k2 1 0;c4 1 2 3;h1;", 0);
        Due.feed(x, "k2 1 0;c4 1 2 3;h1;");
        Due.is("house(), each once in a text", x.house(), 0);
        Due.feed(x, "k2 1 0;c4 1 2 3;h1;c4");
        Due.is("house()", x.house(), -14);
        Due.feed(x, "k2 1 0;c4 3 2 1;h1;");
        Due.is("house(), behind a fault too", x.house(), 0);
        Due.is("cloth(4, 0)", x.cloth(4, 0), 3);
    }

    private static void holes() {
        Sentences.of(3, "'h' C ';' (a HOLE in CELL C; each once)");
        bounds(LAST + "h", 0, 19, ";", 0);
        faulty(ONE + "h1;", 2, 8);
        fine(ONE + "h0;", 0);
        StringBuilder all = new StringBuilder(LAST);
        for (int c = 19; c >= 0; c--) {
            all.append('h').append(c).append(';');
        }
        Due.is("told(5), all of twenty", fine(all.toString(), 0).told(5), 1048575);
        for (int c = 0; c < 20; c++) {
            faulty(all + "h" + c + ";", 4, all.length() + 1);
        }
    }

    private static void actors() {
        Sentences.of(3, "5 ACTORS at most");
        Due.is("actor(0, 0), none", fine(ONE, 0).actor(0, 0), Due.UNKNOWN);
        BaredCurtain x = fine(ONE + FIVE, 5);
        Due.is("actor(4, 1), the fifth", x.actor(4, 1), 1);
        faulty(ONE + FIVE + ACTOR, 3, 52);
        Sentences.of(3, "stands behind COLUMN X");
        bounds(LAST + "a", 0, 4, " 1 0 0;", 1);
        bounds(ONE + "a", 0, 0, " 1 0 0;", 1);
        Due.is("actor(0, 0)", fine(LAST + "a4 1 0 0;", 1).actor(0, 0), 4);
        Sentences.of(3, "is T rows tall, 1 .. 4");
        bounds(ONE + "a0 ", 1, 4, " 0 0;", 1);
        Due.is("actor(0, 1)", fine(ONE + "a0 4 0 0;", 1).actor(0, 1), 4);
        Sentences.of(3, "has N pieces, 0 .. 9, of CLOTH K on)");
        bounds(ONE + "a0 1 0 ", 0, 9, ";", 1);
        bounds(ONE + "a0 1 ", 0, 4, " 0;", 1);
        Due.is("actor(0, 3)", fine(ONE + "a0 1 4 9;", 1).actor(0, 3), 9);
        Due.is("actor(0, 2)", fine(ONE + "a0 1 4 9;", 1).actor(0, 2), 4);
    }

    private static void figures() {
        Sentences.of(3, "NUMBERS have one to three figures");
        Due.is("cloth(3, 0)", fine("k05 004 4;c003 9 09 009;", 0).cloth(3, 0), 9);
        Due.is("cloth(3, 0)", fine(ONE + "c3 099 9 060;", 0).cloth(3, 0), 99);
        faulty(ONE + "c3 0099 9 060;", 2, 10);
        faulty("k0005 4 4;", 2, 1);
        faulty("k5 4 0000;", 2, 5);
        faulty(LAST + "h;", 1, 8);
    }

    private static void words() {
        Sentences.of(3, "a word is one letter");
        faulty("kk1 1 0;", 1, 1);
        faulty(ONE + "hh0;", 1, 8);
        faulty(ONE + "ac", 1, 8);
        faulty(ONE + "A0 1 0 0;", 1, 7);
    }

    private static void blanks() {
        Sentences.of(3, "blanks (32) may stand anywhere but within NUMBERS");
        BaredCurtain x = fine("  k  5  4  0  ;  h  10  ;  a  0  1  0  9  ;  c  0  1  2  3  ;  ", 1);
        Due.is("told(5)", x.told(5), 1 << 10);
        faulty("k5 4 0;h1 0;", 1, 10);
        fine("k5 4 0;h1;h 0;", 0);
        for (int letter = 0; letter < 256; letter++) {
            String text = "k1 1 0" + (char) letter + ";";
            boolean figure = letter >= '0' && letter <= '9';
            if (letter == ' ') {
                fine(text, 0);
            } else if (letter == ';') {
                faulty(text, 1, 7);
            } else if (figure && letter <= '4') {
                fine(text, 0);
            } else {
                faulty(text, figure ? 2 : 1, figure ? 5 : 6);
            }
        }
    }

    private static void neighbours() {
        Sentences.of(3, "two NUMBERS side by side need one");
        faulty("k11 0;", 2, 1);
        faulty("k1 10;", 2, 3);
        faulty("k110;", 2, 1);
        faulty(ONE + "a0 1 00;", 1, 14);
        faulty(ONE + "a010 0;", 2, 8);
    }

    private static void firstLetter() {
        Sentences.of(3, "FAULTS, at the first letter that has one");
        faulty("k6 5 5;k", 2, 1);
        faulty("k1 5 5;", 2, 3);
        faulty(ONE + "x" + ONE, 1, 7);
        faulty(ONE + ONE + "x", 3, 7);
        faulty(ONE + "h0;h0x", 4, 11);
        faulty(ONE + "h0;hx0", 1, 11);
        faulty(ONE + "c0 0 0 1;c0 100", 4, 17);
        faulty(ONE + "c0 0 0 1;c1 100 0 1;c0 0 0 1;", 2, 19);
        faulty(ONE + FIVE + "ax", 3, 52);
        faulty(ONE + "a1 5 5 10", 2, 8);
    }

    private static void theEnd() {
        Sentences.of(3, "(the end at the text's length)");
        faulty("k", 1, 1);
        faulty("k1", 1, 2);
        faulty("k1 ", 1, 3);
        faulty("k1 1", 1, 4);
        faulty("k1 1 0", 1, 6);
        faulty("k1 1 0 ", 1, 7);
        faulty(ONE + "c0 0 0 1", 1, 15);
        faulty(ONE + "h", 1, 8);
        faulty(ONE + "h0", 1, 9);
        faulty(ONE + "a0 1 0 0  ", 1, 17);
        faulty("k6", 2, 1);
        faulty("k1 1 1000", 2, 5);
    }

    /** Every text cut short, behind the whole of it: no letter of the one before may be read on. */
    private static void theEndBehindALongerText() {
        Sentences.of(4, "(the end at the text's length)");
        String whole = "k2 1 0;c0 1 2 3;h1;a0 1 0 9;";
        for (int n = 1; n < whole.length(); n++) {
            BaredCurtain x = fine(whole, 1);
            Due.feed(x, whole.substring(0, n));
            int got = x.house();
            boolean ends = whole.charAt(n - 1) == ';';
            Due.is("house() of its first " + n, got, ends ? 0 : -11);
            Due.is("fault() of its first " + n, x.fault(), ends ? Due.NONE : n);
        }
    }

    private static void theLeast() {
        Sentences.of(3, "of these the least");
        faulty("k1 k", 1, 3);
        faulty(ONE + FIVE.substring(0, 44) + "a", 1, 51);
        faulty(ONE + "h0;h0000;", 2, 11);
        faulty(ONE + "c0 0 0 1;c0000", 2, 17);
        faulty("k1 1 0 1000;", 1, 7);
    }

    private static void cannotStand() {
        Sentences.of(3, "1 it cannot stand there (a letter that is no word, another word first than 'k').");
        for (int letter = 0; letter < 256; letter++) {
            if (letter != 'k' && letter != ' ') {
                faulty((char) letter + "", 1, 0);
                faulty(" " + (char) letter, 1, 1);
            }
            if ("kcha ".indexOf(letter) < 0) {
                faulty(ONE + (char) letter, 1, 7);
            }
            if (letter != ';' && letter != ' ' && (letter < '0' || letter > '9')) {
                faulty(ONE + "h0 " + (char) letter, 1, 10);
                faulty(ONE + "c0 " + (char) letter, 1, 10);
            }
        }
    }

    private static void wrongNumber() {
        Sentences.of(3, "2 a NUMBER of four figures or more, or out of its bounds; a CELL, a COLUMN that there is not (at its first).");
        faulty(LAST + "h 0019;", 2, 9);
        fine(LAST + "h 019;", 0);
        faulty("k5 4 0;h20;", 2, 8);
        faulty("k4 4 0;h15;h16;", 2, 12);
        faulty("k1 3 0;h2;h3;", 2, 11);
        faulty("k4 1 0;a4 1 0 0;", 2, 8);
        fine("k4 1 0;a3 1 0 0;", 1);
        faulty(ONE + "h99999999999999999999;", 2, 8);
        faulty(ONE + "h4294967296;", 2, 8);
        faulty(ONE + "h" + "0".repeat(200) + ";", 2, 8);
    }

    private static void oneTooMany() {
        Sentences.of(3, "3 'k' again, a sixth 'a' (at it).");
        faulty(ONE + "k", 3, 7);
        faulty(ONE + "  k", 3, 9);
        faulty(ONE + FIVE + "a", 3, 52);
        faulty(ONE + FIVE + " a0 1 0 0;", 3, 53);
        fine(ONE + FIVE + "h0;", 5);
    }

    private static void toldAgain() {
        Sentences.of(3, "4 'c' of a K, 'h' of a C again (at it).");
        faulty("k2 1 0;h1;h0;h1;", 4, 14);
        faulty("k2 1 0;h1;h001;", 4, 11);
        faulty("k5 4 0;h19;h 19;", 4, 13);
        faulty(ONE + "c4 0 0 1;c 04 0 0 1;", 4, 18);
        faulty(ONE + "c0 0 0 1;c0 0 0 1;", 4, 17);
        fine("k2 1 0;h1;h0;c1 0 0 1;c0 0 0 1;", 0);
    }

    private static void empty() {
        Sentences.of(3, "An empty text: no CURTAIN.");
        BaredCurtain x = fine("", 0);
        Due.is("told(0)", x.told(0), 0);
        Due.is("night(1)", x.night(1), Due.NOT);
        Due.feed(x, LAST + "c0 1 1 1;h3;" + ACTOR);
        Due.is("house()", x.house(), 1);
        Due.is("told(0)", x.told(0), 5);
        Due.is("house(), empty again", x.house(), 0);
        Due.is("fault()", x.fault(), Due.NONE);
        Due.is("told(0)", x.told(0), 0);
        Due.is("told(1)", x.told(1), 0);
        Due.is("told(2)", x.told(2), 0);
        Due.is("told(5)", x.told(5), 0);
        Due.is("cell(0, 0)", x.cell(0, 0), Due.UNKNOWN);
        Due.is("actor(0, 0)", x.actor(0, 0), Due.UNKNOWN);
        Due.is("cloth(0, 0), untold", x.cloth(0, 0), 10);
    }
}
