/** Counts the answers that are not the due ones, and tells each of them. */
final class Due {
    static final int NONE = -1;
    static final int UNKNOWN = -1000000001;
    static final int OUTSIDE = -1000000002;
    static final int NOT = -1000000003;
    static final int FULL = -1000000004;

    private static int asked = 0;
    private static int wrong = 0;
    private static String where = "";

    private Due() {
    }

    static void in(String name) {
        where = name;
    }

    static void is(String call, long got, long want) {
        asked++;
        if (got != want) {
            wrong++;
            if (wrong <= 50) {
                System.out.println(where + ": " + call + " answered " + got + ", due is " + want);
            }
        }
    }

    static void fail(String what) {
        asked++;
        wrong++;
        System.out.println(where + ": " + what);
    }

    static void holds(String what, boolean so) {
        if (so) {
            asked++;
        } else {
            fail(what);
        }
    }

    /** Feeds a text; every letter is taken. */
    static void feed(BaredCurtain x, String text) {
        for (int i = 0; i < text.length(); i++) {
            x.feed(text.charAt(i));
        }
    }

    /** A new object whose house the text tells; the text has no fault. */
    static BaredCurtain house(String text) {
        BaredCurtain x = new BaredCurtain();
        feed(x, text);
        int actors = x.house();
        is("house() of \"" + text + "\" without a fault", actors < 0 ? 0 : 1, 1);
        return x;
    }

    /** All that calls without a change tell of an object, so that a refused call can be shown to change nothing. */
    static String all(BaredCurtain x) {
        StringBuilder s = new StringBuilder();
        for (int what = 0; what <= 12; what++) {
            s.append(x.told(what)).append(' ');
        }
        for (int c = 0; c < x.told(0) * x.told(1); c++) {
            for (int what = 0; what <= 3; what++) {
                s.append(x.cell(c, what)).append(' ');
            }
        }
        for (int a = 0; a < x.told(2); a++) {
            for (int what = 0; what <= 4; what++) {
                s.append(x.actor(a, what)).append(' ');
            }
        }
        for (int k = 0; k < 5; k++) {
            for (int what = 0; what <= 2; what++) {
                s.append(x.cloth(k, what)).append(' ');
            }
        }
        s.append(x.wasCut()).append(' ').append(x.judge());
        return s.toString();
    }

    /** A call that was refused: it answered as due, and all is as it was. */
    static void refused(BaredCurtain x, String before, String call, int got, int want) {
        is(call, got, want);
        holds(call + " changed something", all(x).equals(before));
    }

    /** Ends the test: the exit code is 1 if an answer was wrong. */
    static void end(String name) {
        System.out.println(name + ": " + asked + " answers, " + wrong + " wrong");
        if (wrong != 0) {
            System.exit(1);
        }
    }
}
