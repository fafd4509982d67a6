import java.util.function.Supplier;

/**
 * The refusals of every call, in the document's order, in states that refuse for every reason there is:
 * each call with all edges of its arguments, each time on a new object, of which then all is compared
 * with another one that was not asked.
 */
final class Refusals {
    private static final int TAKEN = 0;
    private static final int[] FEW = {Integer.MIN_VALUE, -2, -1, 0, 1, 2, 3, 4, 5, 6, 19, 20, 21, 31, 32, Integer.MAX_VALUE};
    private static final int[] COUNTS = {Integer.MIN_VALUE, -1, 0, 1, 9, 10, Integer.MAX_VALUE};
    private static final int[] NIGHTS = {Integer.MIN_VALUE, -1, 0, 1, 20, 21, Integer.MAX_VALUE};
    private static final int[] HUNDRED = {Integer.MIN_VALUE, -1, 0, 59, 60, 61, 99, 100, 101, Integer.MAX_VALUE};
    private static final int[] LETTERS = {Integer.MIN_VALUE, -256, -1, 0, ';', 255, 256, 256 + ';', Integer.MAX_VALUE};
    private static final int[] NOTHING = {0};

    private interface Call {
        int of(BaredCurtain x, int[] v);
    }

    private interface Rule {
        int due(int[] v);
    }

    /** A state, told by what its calls are refused for. */
    private static final class State {
        private final String name;
        private final Supplier<BaredCurtain> maker;
        private int columns = 2;
        private int cells = 4;
        private int actors = 2;
        private int holes = 0;
        private int undoable = 0;
        private int kept = 0;
        private boolean hasCurtain = true;
        private boolean nightsAreFull = false;
        private boolean seenIsFull = false;
        private boolean bookIsFull = false;
        private boolean textIsFull = false;

        State(String name, Supplier<BaredCurtain> maker) {
            this.name = name;
            this.maker = maker;
        }

        boolean has(int number, int count) {
            return number >= 0 && number < count;
        }
    }

    private Refusals() {
    }

    static void test() {
        Sentences.of(1, "REFUSALS, of several the first in this order: UNKNOWN (a CELL, CLOTH, ACTOR, COLUMN, IMAGE that there is not; "
            + "bits of such), OUTSIDE (another number out of its bounds), NOT (not now, as told), FULL.");
        Sentences.of(1, "What is refused changes nothing.");
        State[] states = {noCurtain(), noActors(), played(), full(), textFull(), nineHoles(), nightsFull()};
        for (State state : states) {
            ofTheHouse(state);
            ofWhatIsDone(state);
            ofWhatIsTried(state);
            ofWhatIsSeen(state);
            ofImages(state);
        }
    }

    // ---- the states

    private static State noCurtain() {
        State s = new State("no curtain", BaredCurtain::new);
        s.hasCurtain = false;
        s.columns = 0;
        s.cells = 0;
        s.actors = 0;
        return s;
    }

    private static State noActors() {
        State s = new State("no actors", () -> Due.house("k5 4 0;h19;"));
        s.columns = 5;
        s.cells = 20;
        s.actors = 0;
        s.holes = 1 << 19;
        return s;
    }

    /** Something of all there is: a text begun, a fault, nights, images, what can be undone, seen, the book. */
    private static BaredCurtain playedOn() {
        BaredCurtain x = Due.house("k2 2 0;c0 50 3 5;h0;h3;a0 1 1 3;a1 2 2 0;");
        x.feed('x');
        x.house();
        Due.feed(x, "k1 1 0;a0 1 0 7");
        x.seed(4711);
        x.night(1);
        x.keep(0);
        x.drift(2);
        x.dress(0, 4, 9);
        x.go(1, 0);
        x.see(0, true);
        x.see(1, false);
        x.write(0, 9);
        x.write(1, 3);
        return x;
    }

    private static State played() {
        State s = new State("played on", Refusals::playedOn);
        s.holes = playedOn().told(5);
        s.undoable = 3;
        s.kept = 1;
        return s;
    }

    private static State full() {
        State s = new State("full", () -> {
            BaredCurtain x = playedOn();
            x.keep(1);
            for (int i = 0; i < 22; i++) {
                x.go(0, i % 2);
                x.see(0, true);
                x.write(1, i % 10);
            }
            return x;
        });
        s.holes = playedOn().told(5);
        s.undoable = 20;
        s.kept = 3;
        s.seenIsFull = true;
        s.bookIsFull = true;
        return s;
    }

    private static State textFull() {
        State s = new State("a full text", () -> {
            BaredCurtain x = Due.house("k2 2 0;h1;a0 1 1 3;a1 2 2 0;");
            Due.feed(x, "k1 1 0;a0 1 0 7;" + " ".repeat(224));
            return x;
        });
        s.holes = 2;
        s.textIsFull = true;
        return s;
    }

    private static State nineHoles() {
        State s = new State("nine holes", () -> Due.house("k3 3 0;h0;h1;h2;h3;h4;h5;h6;h7;h8;a0 1 1 3;a2 3 2 0;"));
        s.columns = 3;
        s.cells = 9;
        s.holes = 511;
        return s;
    }

    private static State nightsFull() {
        State s = new State("nights above 9000", () -> {
            BaredCurtain x = Due.house("k2 2 0;a0 1 1 3;a1 2 2 0;");
            for (int i = 0; i < 450; i++) {
                x.night(20);
            }
            x.night(1);
            return x;
        });
        s.undoable = 20;
        s.nightsAreFull = true;
        return s;
    }

    // ---- the calls

    private static void ofTheHouse(State s) {
        grid(s, "feed", (x, v) -> x.feed(v[0]),
            v -> v[0] < 0 || v[0] > 255 ? Due.OUTSIDE : s.textIsFull ? Due.FULL : TAKEN, LETTERS);
        grid(s, "told", (x, v) -> x.told(v[0]), v -> s.has(v[0], 13) ? TAKEN : Due.OUTSIDE,
            new int[] {Integer.MIN_VALUE, -1, 0, 12, 13, Integer.MAX_VALUE});
        grid(s, "cell", (x, v) -> x.cell(v[0], v[1]),
            v -> !s.has(v[0], s.cells) ? Due.UNKNOWN : s.has(v[1], 4) ? TAKEN : Due.OUTSIDE, FEW, FEW);
        grid(s, "cloth", (x, v) -> x.cloth(v[0], v[1]),
            v -> !s.has(v[0], 5) ? Due.UNKNOWN : s.has(v[1], 3) ? TAKEN : Due.OUTSIDE, FEW, FEW);
        grid(s, "actor", (x, v) -> x.actor(v[0], v[1]),
            v -> !s.has(v[0], s.actors) ? Due.UNKNOWN : s.has(v[1], 5) ? TAKEN : Due.OUTSIDE, FEW, FEW);
    }

    private static int dueOfNights(State s, int n) {
        if (n < 1 || n > 20) {
            return Due.OUTSIDE;
        }
        return !s.hasCurtain ? Due.NOT : s.nightsAreFull ? Due.FULL : TAKEN;
    }

    private static void ofWhatIsDone(State s) {
        grid(s, "night", (x, v) -> x.night(v[0]), v -> dueOfNights(s, v[0]), NIGHTS);
        grid(s, "cut", (x, v) -> x.cut(v[0]),
            v -> !s.has(v[0], s.cells) ? Due.UNKNOWN : (s.holes >> v[0] & 1) == 1 ? Due.NOT : TAKEN, FEW);
        grid(s, "go", (x, v) -> x.go(v[0], v[1]),
            v -> s.has(v[0], s.actors) && s.has(v[1], s.columns) ? TAKEN : Due.UNKNOWN, FEW, FEW);
        grid(s, "dress", (x, v) -> x.dress(v[0], v[1], v[2]),
            v -> !s.has(v[0], s.actors) || !s.has(v[1], 5) ? Due.UNKNOWN : s.has(v[2], 10) ? TAKEN : Due.OUTSIDE,
            new int[] {-1, 0, 1, 2, 5}, new int[] {-1, 0, 4, 5}, COUNTS);
        grid(s, "drift", (x, v) -> x.drift(v[0]), v -> dueOfNights(s, v[0]), NIGHTS);
        grid(s, "undo", (x, v) -> x.undo(), v -> s.undoable == 0 ? Due.NOT : TAKEN, NOTHING);
    }

    private static void ofWhatIsTried(State s) {
        grid(s, "who", (x, v) -> x.who(v[0]), v -> s.has(v[0], 21) ? TAKEN : Due.OUTSIDE, NIGHTS);
        grid(s, "stands", (x, v) -> x.stands(v[0], v[1], v[2]),
            v -> !s.has(v[0], s.actors) || v[2] != Due.NONE && !s.has(v[2], s.actors) ? Due.UNKNOWN
                : v[1] < 1 || v[1] > 20 ? Due.OUTSIDE : TAKEN,
            new int[] {-2, -1, 0, 1, 2, 5}, NIGHTS, new int[] {-2, -1, 0, 1, 2, 5});
        grid(s, "sewing", (x, v) -> x.sewing(v[0]),
            v -> v[0] < 1 || v[0] > 3 ? Due.OUTSIDE : Integer.bitCount(s.holes) > 8 ? Due.NOT : TAKEN, FEW);
        grid(s, "least", (x, v) -> x.least(v[0], v[1]),
            v -> !s.has(v[0], 5) ? Due.UNKNOWN : s.has(v[1], 100) ? TAKEN : Due.OUTSIDE, FEW, HUNDRED);
        grid(s, "thread", (x, v) -> x.thread(v[0], v[1]),
            v -> s.has(v[0], 61) && s.has(v[1], 101) ? TAKEN : Due.OUTSIDE, HUNDRED, HUNDRED);
        grid(s, "wholeBy", (x, v) -> x.wholeBy(), v -> TAKEN, NOTHING);
        grid(s, "hidden", (x, v) -> x.hidden(), v -> TAKEN, NOTHING);
        grid(s, "cannot", (x, v) -> x.cannot(), v -> TAKEN, NOTHING);
        grid(s, "moths", (x, v) -> x.moths(), v -> TAKEN, NOTHING);
    }

    private static void ofWhatIsSeen(State s) {
        grid(s, "see", (x, v) -> x.see(v[0], v[1] == 1),
            v -> !s.has(v[0], s.actors) ? Due.UNKNOWN : s.seenIsFull ? Due.FULL : TAKEN, FEW, new int[] {0, 1});
        grid(s, "write", (x, v) -> x.write(v[0], v[1]),
            v -> !s.has(v[0], s.actors) ? Due.UNKNOWN : !s.has(v[1], 10) ? Due.OUTSIDE : s.bookIsFull ? Due.FULL : TAKEN,
            FEW, COUNTS);
        grid(s, "wasCut", (x, v) -> x.wasCut(), v -> TAKEN, NOTHING);
        grid(s, "watch", (x, v) -> x.watch(), v -> TAKEN, NOTHING);
        grid(s, "judge", (x, v) -> x.judge(), v -> TAKEN, NOTHING);
        grid(s, "tear", (x, v) -> x.tear(), v -> TAKEN, NOTHING);
    }

    private static void ofImages(State s) {
        grid(s, "seed", (x, v) -> x.seed(v[0]), v -> v[0] < 0 ? Due.OUTSIDE : TAKEN, FEW);
        grid(s, "keep", (x, v) -> x.keep(v[0]), v -> s.has(v[0], 2) ? TAKEN : Due.UNKNOWN, FEW);
        grid(s, "goBack", (x, v) -> x.goBack(v[0]),
            v -> !s.has(v[0], 2) ? Due.UNKNOWN : (s.kept >> v[0] & 1) == 0 ? Due.NOT : TAKEN, FEW);
    }

    // ---- each call with all its arguments

    private static void grid(State s, String name, Call call, Rule rule, int[]... edges) {
        Due.in("refusals of " + name + "(), " + s.name);
        String before = deep(s.maker.get(), s.nightsAreFull);
        int[] at = new int[edges.length];
        int[] v = new int[edges.length];
        do {
            for (int i = 0; i < v.length; i++) {
                v[i] = edges[i][at[i]];
            }
            one(s, named(name, v), call, rule, v, before);
        } while (advance(at, edges));
    }

    private static boolean advance(int[] at, int[][] edges) {
        for (int i = at.length - 1; i >= 0; i--) {
            at[i]++;
            if (at[i] < edges[i].length) {
                return true;
            }
            at[i] = 0;
        }
        return false;
    }

    private static void one(State s, String named, Call call, Rule rule, int[] v, String before) {
        BaredCurtain x = s.maker.get();
        int due = rule.due(v);
        int got = call.of(x, v);
        if (due == TAKEN) {
            Due.holds(named + " was refused by " + got, got >= Due.NONE);
        } else {
            Due.is(named, got, due);
            Due.holds(named + " changed something", deep(x, s.nightsAreFull).equals(before));
        }
    }

    private static String named(String name, int[] v) {
        StringBuilder text = new StringBuilder(name).append('(');
        for (int i = 0; i < v.length; i++) {
            text.append(i == 0 ? "" : ", ").append(v[i]);
        }
        return text.append(')').toString();
    }

    /**
     * All of an object, to the seed, what can be undone, the images and the text; it is used up by that.
     * The brief one leaves the calls under 512 where the state has taken most of them.
     */
    private static String deep(BaredCurtain x, boolean brief) {
        StringBuilder s = new StringBuilder();
        if (brief) {
            for (int what = 0; what <= 12; what++) {
                s.append(x.told(what)).append(' ');
            }
            return s.append(x.seed(0)).append(' ').append(x.undo()).append(' ').append(x.told(4)).toString();
        }
        s.append(Due.all(x)).append(' ').append(x.fault()).append(' ').append(x.watch());
        s.append(' ').append(x.seed(0));
        int left = 0;
        for (int i = 0; i < 21 && left >= 0; i++) {
            left = x.undo();
            s.append(" undo ").append(left);
            tellShort(x, s);
        }
        for (int i = 0; i < 2; i++) {
            s.append(" goBack ").append(x.goBack(i)).append(' ').append(x.seed(0));
            tellShort(x, s);
        }
        x.feed(';');
        s.append(" house ").append(x.house()).append(' ').append(x.fault()).append(' ').append(x.actor(0, 3));
        return s.toString();
    }

    private static void tellShort(BaredCurtain x, StringBuilder s) {
        for (int what = 4; what <= 7; what++) {
            s.append(' ').append(x.told(what));
        }
        for (int what = 0; what <= 4; what++) {
            s.append(' ').append(x.actor(what % 2, what));
        }
    }
}
