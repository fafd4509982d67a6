import java.util.Random;

/** Random runs of calls: every answer of the class is compared with the model's. */
public final class ModelTest {
    private static final int RUNS = 4000;
    private static final int CALLS = 512;
    private static final int[] WILD = {-1, -2, 0, 1, 5, 20, 21, 40, 41, 99, 100, 101, 255, 256, 9000,
        Integer.MAX_VALUE, Integer.MIN_VALUE, Due.UNKNOWN};

    private final Random random;
    private final BaredCurtain x = new BaredCurtain();
    private final CurtainModel m = new CurtainModel();
    private int calls = 0;

    private ModelTest(long seed) {
        random = new Random(seed);
    }

    public static void main(String[] args) {
        for (int run = 0; run < RUNS; run++) {
            Due.in("run " + run);
            new ModelTest(run).run();
        }
        Due.end("ModelTest");
    }

    private void run() {
        tellHouse();
        while (calls < CALLS) {
            if (random.nextInt(60) == 0) {
                tellHouse();
            } else {
                call(random.nextInt(30));
            }
        }
    }

    private void due(String call, int got, int want) {
        calls++;
        Due.is("call " + calls + ", " + call, got, want);
    }

    private void tellHouse() {
        String text = text();
        for (int i = 0; i < text.length() && calls < CALLS - 3; i++) {
            due("feed", x.feed(text.charAt(i)), m.feed(text.charAt(i)));
        }
        due("house of \"" + text + "\"", x.house(), m.house());
        due("fault of \"" + text + "\"", x.fault(), m.fault());
    }

    /** A text without a fault as often as not; else some letters of it are changed. */
    private String text() {
        StringBuilder s = new StringBuilder();
        int w = 1 + random.nextInt(5);
        int g = 1 + random.nextInt(4);
        s.append('k').append(w).append(' ').append(g).append(' ').append(random.nextInt(5)).append(';');
        int weighty = random.nextInt(2);
        for (int k = 0; k < 5; k++) {
            if (random.nextInt(3) > 0) {
                int v = weighty == 1 ? 50 + random.nextInt(50) : random.nextInt(100);
                s.append('c').append(k).append(' ').append(v).append(' ').append(random.nextInt(10)).append(' ');
                s.append(1 + random.nextInt(60)).append(';');
            }
        }
        int holes = random.nextInt(4);
        for (int c = 0; c < w * g; c++) {
            if (random.nextInt(4) < holes && random.nextInt(2) == 0) {
                s.append('h').append(c).append(';');
            }
        }
        int actors = random.nextInt(6) - (random.nextInt(3) > 0 ? 2 : 0);
        for (int a = 0; a < actors; a++) {
            s.append('a').append(random.nextInt(w)).append(' ').append(1 + random.nextInt(4)).append(' ');
            s.append(random.nextInt(5)).append(' ').append(random.nextInt(random.nextBoolean() ? 10 : 3)).append(';');
        }
        if (random.nextInt(3) == 0) {
            spoil(s);
        }
        return s.length() > 245 ? s.substring(0, 245) : s.toString();
    }

    private void spoil(StringBuilder s) {
        String letters = "kcha; 0123456789;;  x\t";
        int changes = 1 + random.nextInt(3);
        for (int i = 0; i < changes && s.length() > 1; i++) {
            int at = random.nextInt(s.length());
            char letter = letters.charAt(random.nextInt(letters.length()));
            switch (random.nextInt(5)) {
                case 0: s.deleteCharAt(at); break;
                case 1: s.setCharAt(at, letter); break;
                case 2: s.insert(at, letter); break;
                case 3: s.setLength(at); break;
                default: s.append(s.substring(s.lastIndexOf(";", Math.max(0, s.length() - 2)) + 1)); break;
            }
        }
    }

    /** A number mostly from low to high, at times just beyond, seldom a wild one. */
    private int number(int low, int high) {
        switch (random.nextInt(25)) {
            case 0: return WILD[random.nextInt(WILD.length)];
            case 1: return random.nextBoolean() ? low - 1 : high + 1;
            default: return high < low ? low : low + random.nextInt(high - low + 1);
        }
    }

    private int cell() {
        return number(0, m.told(0) * m.told(1) - 1);
    }

    private int actor() {
        return number(0, m.told(2) - 1);
    }

    private void call(int kind) {
        int a = actor();
        int c = cell();
        int k = number(0, 4);
        int n = number(0, 9);
        int what = number(0, 12);
        int nights = number(1, random.nextInt(4) == 0 ? 20 : 2);
        boolean shown = random.nextInt(3) > 0;
        switch (kind) {
            case 0: due("told " + what, x.told(what), m.told(what)); break;
            case 1: due("cell " + c + ", " + what % 4, x.cell(c, what % 4), m.cell(c, what % 4)); break;
            case 2: due("cell " + c + ", " + what, x.cell(c, what), m.cell(c, what)); break;
            case 3: due("cloth " + k + ", " + what, x.cloth(k, what % 4), m.cloth(k, what % 4)); break;
            case 4: due("actor " + a + ", " + what, x.actor(a, what % 6), m.actor(a, what % 6)); break;
            case 5: due("night " + nights, x.night(nights), m.night(nights)); break;
            case 6: case 7: case 8: due("cut " + c, x.cut(c), m.cut(c)); break;
            case 9:
                int column = number(0, m.told(0) - 1);
                due("go " + a + ", " + column, x.go(a, column), m.go(a, column));
                break;
            case 10: due("dress " + a + ", " + k + ", " + n, x.dress(a, k, n), m.dress(a, k, n)); break;
            case 11: due("drift " + nights, x.drift(nights), m.drift(nights)); break;
            case 12: due("undo", x.undo(), m.undo()); break;
            default: tried(kind, a, k, n, nights, shown); break;
        }
        due("told 5", x.told(5), m.told(5));
        due("told 6", x.told(6), m.told(6));
    }

    private void tried(int kind, int a, int k, int n, int nights, boolean shown) {
        switch (kind) {
            case 13: due("who " + nights, x.who(nights - 1), m.who(nights - 1)); break;
            case 14: due("wholeBy", x.wholeBy(), m.wholeBy()); break;
            case 15: stand(a); break;
            case 16: due("hidden", x.hidden(), m.hidden()); break;
            case 17: due("cannot", x.cannot(), m.cannot()); break;
            case 18:
                int tailors = number(1, 3);
                due("sewing " + tailors, x.sewing(tailors), m.sewing(tailors));
                break;
            case 19:
                int t = number(0, random.nextBoolean() ? 99 : 30);
                due("least " + k + ", " + t, x.least(k, t), m.least(k, t));
                break;
            case 20: due("moths", x.moths(), m.moths()); break;
            case 21:
                int patches = number(0, 60);
                int q = number(0, 100);
                due("thread " + patches + ", " + q, x.thread(patches, q), m.thread(patches, q));
                break;
            default: noted(kind, a, n, shown); break;
        }
    }

    private void stand(int a) {
        int n = number(1, random.nextBoolean() ? 20 : 4);
        int i = number(-1, m.told(2) - 1);
        due("stands " + a + ", " + n + ", " + i, x.stands(a, n, i), m.stands(a, n, i));
    }

    private void noted(int kind, int a, int n, boolean shown) {
        int i = random.nextInt(10) > 0 ? random.nextInt(2) : number(-1, 3);
        switch (kind) {
            case 22: due("see " + a + ", " + shown, x.see(a, shown), m.see(a, shown)); break;
            case 23: due("wasCut", x.wasCut(), m.wasCut()); break;
            case 24: due("watch", x.watch(), m.watch()); break;
            case 25:
                int pieces = random.nextInt(3) > 0 && m.actor(a, 3) >= 0 ? m.actor(a, 3) : n;
                due("write " + a + ", " + pieces, x.write(a, pieces), m.write(a, pieces));
                break;
            case 26: due("judge", x.judge(), m.judge()); break;
            case 27:
                if (random.nextInt(3) == 0) {
                    due("tear", x.tear(), m.tear());
                }
                break;
            case 28:
                int v = random.nextInt(8) == 0 ? number(0, 100) : random.nextInt() & Integer.MAX_VALUE;
                due("seed " + v, x.seed(v), m.seed(v));
                break;
            default:
                if (random.nextBoolean()) {
                    due("keep " + i, x.keep(i), m.keep(i));
                } else {
                    due("goBack " + i, x.goBack(i), m.goBack(i));
                }
                break;
        }
    }
}
