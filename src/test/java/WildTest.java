import java.util.Random;

/** Wild arguments in any state, beyond the 512th call too: nothing throws, and every call ends. */
public final class WildTest {
    private static final int[] WILD = {Integer.MIN_VALUE, Integer.MIN_VALUE + 1, -1000000004, -256, -31, -1, 0, 1, 2, 3, 4,
        5, 6, 9, 10, 19, 20, 21, 30, 31, 32, 33, 60, 61, 99, 100, 101, 255, 256, 65536, Integer.MAX_VALUE - 1, Integer.MAX_VALUE};

    private final Random random = new Random(4711);

    public static void main(String[] args) {
        Due.in("wild calls");
        WildTest test = new WildTest();
        for (int run = 0; run < 200; run++) {
            test.run();
        }
        Due.end("WildTest");
    }

    private void run() {
        BaredCurtain x = new BaredCurtain();
        for (int i = 0; i < 1500; i++) {
            int kind = random.nextInt(34);
            try {
                call(x, kind);
                Due.holds("", true);
            } catch (RuntimeException | StackOverflowError e) {
                Due.fail("call of kind " + kind + " threw " + e);
            }
        }
    }

    private int any() {
        return random.nextInt(3) > 0 ? random.nextInt(6) : WILD[random.nextInt(WILD.length)];
    }

    private void call(BaredCurtain x, int kind) {
        switch (kind) {
            case 0: Due.feed(x, random.nextInt(30) == 0 ? "k5 4 0;" : "h" + any() + ";"); break;
            case 1: Due.feed(x, "a" + random.nextInt(6) + " 4 1 9;c1 99 9 1;"); break;
            case 2: x.feed(any()); break;
            case 3:
                x.house();
                Due.feed(x, "k" + (1 + random.nextInt(5)) + " 4 0;c0 50 9 7;a0 4 1 3;a0 3 2 2;");
                break;
            case 4: x.fault(); break;
            case 5: x.told(any()); break;
            case 6: x.cell(any(), any()); break;
            case 7: x.cloth(any(), any()); break;
            case 8: x.actor(any(), any()); break;
            case 9: x.night(any()); break;
            case 10: x.cut(any()); break;
            case 11: x.go(any(), any()); break;
            case 12: x.dress(any(), any(), any()); break;
            case 13: x.drift(any()); break;
            case 14: x.undo(); break;
            case 15: x.who(any()); break;
            case 16: x.wholeBy(); break;
            case 17: x.stands(any(), any(), any()); break;
            case 18: x.hidden(); break;
            case 19: x.cannot(); break;
            default: callOn(x, kind); break;
        }
    }

    private void callOn(BaredCurtain x, int kind) {
        switch (kind) {
            case 20: x.sewing(any()); break;
            case 21: x.least(any(), any()); break;
            case 22: x.moths(); break;
            case 23: x.thread(any(), any()); break;
            case 24: x.see(any(), random.nextBoolean()); break;
            case 25: x.wasCut(); break;
            case 26: x.watch(); break;
            case 27: x.write(any(), any()); break;
            case 28: x.tear(); break;
            case 29: x.judge(); break;
            case 30: x.seed(any()); break;
            case 31: x.keep(any()); break;
            case 32: x.goBack(any()); break;
            default: x.night(20); break;
        }
    }
}
