/** Promises 6 and 10: many instructions at once, and what they end with. */
public final class RunPromiseTest {
    public static void main(String[] args) {
        wrongNumbers();
        untilHalt();
        untilOneCantBe();
        all();
        behindTheLastWord();
        endings();
        timeComesAround();
        Check.end();
    }

    private static void wrongNumbers() {
        SignMachine x = new SignMachine();
        x.go(4);
        int[] wrong = {0, -1, 20001, Integer.MIN_VALUE, Integer.MAX_VALUE, 40000};
        for (int n : wrong) {
            Check.due("run(" + n + ")", x.run(n), -1);
        }
        Check.due("next", x.state(0), 4);
        Check.due("time", x.state(3), 0);
        Check.due("ended", x.state(6), 0);
        x.poke(4, 0, 63 << 6 | 8);
        Check.due("step", x.step(), 2);
        Check.due("run(0)", x.run(0), -1);
        Check.due("ended as before", x.state(6), 2);
    }

    private static void untilHalt() {
        SignMachine x = new SignMachine();
        Rig.put(x, 5, 0, 0, 2, 5);
        Check.due("run(100)", x.run(100), 6);
        Check.due("next", x.state(0), 6);
        Check.due("ended", x.state(6), 1);
        Check.due("time", x.state(3), 15);
        Check.due("run(3)", x.run(3), 3);
        Check.due("next", x.state(0), 9);
        Check.due("ended", x.state(6), 0);
        x.go(0);
        Check.due("run(6): the last one is the HALT", x.run(6), 6);
        Check.due("ended", x.state(6), 1);
        x.go(0);
        Check.due("run(5): up to the HALT", x.run(5), 5);
        Check.due("ended", x.state(6), 0);
        Check.due("run(1): the HALT", x.run(1), 1);
        Check.due("ended", x.state(6), 1);
    }

    private static void untilOneCantBe() {
        int[][] bad = {{0, 0, 6, 8, 2}, {4000, 0, 5, 8, 3}, {4001, 0, 0, 39, 3}, {-1, 0, 0, 35, 5}};
        for (int[] b : bad) {
            SignMachine x = new SignMachine();
            Rig.put(x, 3, b[0], b[1], b[2], b[3]);
            Check.due("run(50)", x.run(50), 3);
            Check.due("next", x.state(0), 3);
            Check.due("ended", x.state(6), b[4]);
            Check.due("time", x.state(3), 3);
            Check.due("run(50) again", x.run(50), 0);
            Check.due("ended", x.state(6), b[4]);
            x.go(1);
            Check.due("run(2)", x.run(2), 2);
            Check.due("ended", x.state(6), 0);
        }
        SignMachine x = new SignMachine();
        Rig.reg(x, 1, 4095);
        Rig.put(x, 0, 1, 0, 0, 49);
        Check.due("run(50)", x.run(50), 0);
        Check.due("ended", x.state(6), 4);
    }

    private static void all() {
        SignMachine x = new SignMachine();
        Rig.put(x, 0, 1, 0, 0, 48);
        Rig.put(x, 1, 0, 0, 0, 39);
        Check.due("run(20000)", x.run(20000), 20000);
        Rig.dueReg("counted", x, 0, 0, 10000);
        Check.due("ended", x.state(6), 0);
        Check.due("time", x.state(3), 20000);
        Check.due("run(1)", x.run(1), 1);
        Rig.dueReg("counted", x, 0, 0, 10001);
    }

    private static void behindTheLastWord() {
        SignMachine x = new SignMachine();
        x.go(3990);
        Check.due("run(100)", x.run(100), 10);
        Check.due("next", x.state(0), 4000);
        Check.due("ended", x.state(6), 3);
    }

    private static void endings() {
        SignMachine x = new SignMachine();
        Rig.put(x, 0, 0, 0, 2, 5);
        Check.due("a HALT", x.step(), 1);
        Check.due("ended", x.state(6), 1);
        x.go(9);
        x.poke(9, 0, 0);
        x.assemble();
        Check.due("ended, as before", x.state(6), 1);
        Check.due("nothing", x.step(), 0);
        Check.due("ended", x.state(6), 0);
    }

    /** 437 runs of a program that moves 63 words with nearly each instruction take more than 2 to the 30th. */
    private static void timeComesAround() {
        Check.sentence("3 TIME (modulo 2 to the 30th)");
        SignMachine x = new SignMachine();
        Rig.put(x, 0, 100, 0, 2, 49);
        Rig.put(x, 1, 0, 0, 63, 7);
        Rig.put(x, 3000, 2, 0, 2, 49);
        Rig.put(x, 3001, 1, 0, 60, 7);
        Rig.put(x, 3002, 0, 0, 2, 5);
        x.go(3000);
        Check.due("the first MOVE comes to 61 words", x.run(10), 3);
        Rig.put(x, 62, 0, 0, 1, 39);
        x.go(0);
        long time = x.state(3);
        Check.due("time", time, 1 + 121 + 10);
        int inLoop = 0;
        for (int i = 0; i < 450; i++) {
            Check.due("run(20000)", x.run(20000), 20000);
            int loops = (inLoop + 20000) / 63;
            int rest = (inLoop + 20000) % 63;
            time += loops * 7749L + timeOf(rest) - timeOf(inLoop);
            inLoop = rest;
            if (i % 50 == 0 || i >= 430) {
                Check.due("time modulo 2 to the 30th", x.state(3), time % (1 << 30));
            }
        }
        Check.due("more than 2 to the 30th", time > 1 << 30, true);
        Check.due("time modulo 2 to the 30th", x.state(3), time % (1 << 30));
    }

    private static long timeOf(int instructions) {
        return instructions == 0 ? 0 : 1 + 127L * (instructions - 1);
    }
}
