import java.util.Random;

/**
 * All promises: calls of any kind with any arguments never throw, keep their answers in bounds,
 * and are the same for a second object that has the same calls.
 */
public final class AnyCallsTest {
    private static final int RUNS = 1500;
    private static final int[] EDGES = {Integer.MIN_VALUE, Integer.MIN_VALUE + 1, -2000000000, -4096, -1, 0, 1, 2, 7, 8, 9, 19, 20, 21, 39, 40, 63, 64,
        99, 100, 3900, 3999, 4000, 4095, 4096, 20000, 20001, 1073741823, 1073741824, Integer.MAX_VALUE - 1, Integer.MAX_VALUE};
    private static final String BYTES = "    \n\nABHF0129+-*/:,()=;$LDASTJMPENDCONALFEQUORIG";

    private final Random random;
    private final SignMachine x = new SignMachine();
    private final SignMachine y = new SignMachine();
    private final String title;

    private AnyCallsTest(int seed) {
        random = new Random(seed);
        title = "seed " + seed;
    }

    public static void main(String[] args) {
        for (int seed = 0; seed < RUNS; seed++) {
            AnyCallsTest test = new AnyCallsTest(seed);
            for (int i = 0; i < 500; i++) {
                test.call();
            }
        }
        Check.end();
    }

    private int any() {
        switch (random.nextInt(5)) {
            case 0: return random.nextInt();
            case 1: return random.nextInt(4000);
            case 2: return random.nextInt(10);
            case 3: return random.nextInt(1 << 30);
            default: return EDGES[random.nextInt(EDGES.length)];
        }
    }

    private int four() {
        int four = 0;
        for (int i = 0; i < 4; i++) {
            int c = random.nextInt(60) == 0 ? random.nextInt(256) : BYTES.charAt(random.nextInt(BYTES.length()));
            four = four << 8 | c;
        }
        return four;
    }

    private void same(String call, long a, long b, long least, long most) {
        Check.due(title + " " + call, a, b);
        if (a < least || a > most) {
            Check.fail(title + " " + call + " answered " + a);
        }
    }

    private static long one(boolean b) {
        return b ? 1 : 0;
    }

    private void call() {
        int a = any(), b = any(), c = any();
        switch (random.nextInt(16)) {
            case 0: same("poke", one(x.poke(a, b & 1, c)), one(y.poke(a, b & 1, c)), 0, 1); break;
            case 1: same("peekSign", x.peekSign(a), y.peekSign(a), -1, 1); break;
            case 2: same("peekSize", x.peekSize(a), y.peekSize(a), -1, 1073741823); break;
            case 3: same("step", x.step(), y.step(), 0, 5); break;
            case 4: same("run", x.run(a), y.run(a), -1, 20000); break;
            case 5: same("registerSign", x.registerSign(a), y.registerSign(a), -1, 1); break;
            case 6: same("registerSize", x.registerSize(a), y.registerSize(a), -1, 1073741823); break;
            case 7: same("set", one(x.set(a, b, c)), one(y.set(a, b, c)), 0, 1); break;
            case 8: same("state", x.state(a), y.state(a), -2, 1073741823); break;
            case 9: same("go", one(x.go(a)), one(y.go(a)), 0, 1); break;
            case 10: same("tape", x.tape(a & 1, b, c), y.tape(a & 1, b, c), -2000000000, 1073741823); break;
            case 11: feed(four(), four(), four(), four(), four()); break;
            case 12: feed(a, b, c, four(), four()); break;
            case 13: same("end", x.end(a), y.end(a), -1, 4000); break;
            case 14: same("assemble", x.assemble(), y.assemble(), 0, 6); break;
            default: same("about", x.about(a), y.about(a), -1, 4000); break;
        }
    }

    private void feed(int a, int b, int c, int d, int e) {
        same("feed", x.feed(a, b, c, d, e), y.feed(a, b, c, d, e), -1, 4000);
    }
}
