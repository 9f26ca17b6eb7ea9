/** Promise 12, and the instructions of tapes (34 to 38). */
public final class TapePromiseTest {
    private static final int NONE = -2000000000;

    public static void main(String[] args) {
        wrongWords();
        signs();
        writtenAndRead();
        unitsAreApart();
        winding();
        atTheEnd();
        wholeTape();
        edgesOfMemory();
        Check.end();
    }

    private static void wrongWords() {
        SignMachine x = new SignMachine();
        int[][] wrong = {{-1, 0, 0}, {2, 0, 0}, {0, -1, 0}, {0, 40, 0}, {1, 40, 0}, {0, 0, -1}, {0, 0, 100}, {1, 39, 100}, {1, 0, 4000},
            {Integer.MIN_VALUE, 0, 0}, {0, Integer.MAX_VALUE, 0}, {0, 0, Integer.MIN_VALUE}, {0, 0x08000000, 0}, {1, 1, -100}};
        for (int[] w : wrong) {
            Check.due("tape(" + w[0] + ", " + w[1] + ", " + w[2] + ")", x.tape(w[0], w[1], w[2]), NONE);
        }
        int[][] good = {{0, 0, 0}, {1, 0, 0}, {0, 39, 99}, {1, 39, 99}, {0, 0, 99}, {0, 39, 0}};
        for (int[] g : good) {
            Check.due("tape(" + g[0] + ", " + g[1] + ", " + g[2] + ")", x.tape(g[0], g[1], g[2]), 0);
        }
    }

    private static void signs() {
        SignMachine x = new SignMachine();
        x.poke(0, 1, 0);
        x.poke(1, 0, Rig.MAX);
        x.poke(2, 1, Rig.MAX);
        x.poke(3, 1, 1);
        Check.due("WRITE", Rig.does(x, 0, 0, 0, 37), 0);
        int[] want = {-1073741824, Rig.MAX, -Rig.MAX, -1, 0};
        for (int k = 0; k < want.length; k++) {
            Check.due("tape(0, 0, " + k + ")", x.tape(0, 0, k), want[k]);
        }
        Check.due("READ", Rig.does(x, 0, 0, 0, 35), 0);
        Check.due("READ", Rig.does(x, 500, 0, 0, 36), 0);
        Rig.dueMem("- 0", x, 500, 1, 0);
        Rig.dueMem("most", x, 501, 0, Rig.MAX);
        Rig.dueMem("least", x, 502, 1, Rig.MAX);
        Rig.dueMem("0", x, 504, 0, 0);
    }

    private static void writtenAndRead() {
        SignMachine x = new SignMachine();
        for (int i = 0; i < 102; i++) {
            x.poke(999 + i, 0, i);
        }
        Check.due("WRITE", Rig.does(x, 1000, 0, 1, 37), 0);
        Check.due("tape stands", x.state(5), 1);
        Check.due("the other stands", x.state(4), 0);
        Check.due("time", x.state(3), 1);
        for (int k = 0; k < 100; k++) {
            Check.due("tape(1, 0, " + k + ")", x.tape(1, 0, k), k + 1);
        }
        Check.due("the next block", x.tape(1, 1, 0), 0);
        Check.due("the other tape", x.tape(0, 0, 0), 0);
        x.poke(2000, 0, 7);
        x.poke(2099, 1, 7);
        x.poke(1999, 0, 8);
        x.poke(2100, 0, 9);
        Check.due("READ an empty block", Rig.does(x, 2000, 0, 1, 36), 0);
        Check.due("tape stands", x.state(5), 2);
        Rig.dueMem("READ", x, 2000, 0, 0);
        Rig.dueMem("READ", x, 2099, 0, 0);
        Rig.dueMem("before", x, 1999, 0, 8);
        Rig.dueMem("behind", x, 2100, 0, 9);
        Check.due("WIND back", Rig.does(x, -2, 0, 1, 35), 0);
        Check.due("READ", Rig.does(x, 2000, 0, 1, 36), 0);
        for (int k = 0; k < 100; k += 3) {
            Rig.dueMem("READ", x, 2000 + k, 0, k + 1);
        }
        Check.due("what was read is still there", x.tape(1, 0, 99), 100);
        Check.due("WIND to the first", Rig.does(x, 0, 0, 1, 35), 0);
        Check.due("WRITE over it", Rig.does(x, 3500, 0, 1, 37), 0);
        Check.due("written over", x.tape(1, 0, 99), 0);
    }

    private static void unitsAreApart() {
        SignMachine x = new SignMachine();
        Rig.mem(x, 100, 11);
        Check.due("WRITE 0", Rig.does(x, 100, 0, 0, 37), 0);
        Rig.mem(x, 100, 22);
        Check.due("WRITE 1", Rig.does(x, 100, 0, 1, 37), 0);
        Check.due("tape 0", x.tape(0, 0, 0), 11);
        Check.due("tape 1", x.tape(1, 0, 0), 22);
        Check.due("WIND 1", Rig.does(x, 5, 0, 1, 35), 0);
        Check.due("tape 0 stands", x.state(4), 1);
        Check.due("tape 1 stands", x.state(5), 6);
    }

    private static void winding() {
        SignMachine x = new SignMachine();
        int[][] winds = {{40, 0, 40}, {1, 5, 40}, {-40, 0, 0}, {-1, 5, 0}, {39, 0, 39}, {2, 5, 39}, {1, 0, 40}, {-41, 5, 40}, {-13, 0, 27},
            {0, 0, 0}, {41, 5, 0}, {4095, 5, 0}, {-4095, 5, 0}, {7, 0, 7}};
        for (int[] w : winds) {
            Check.due("WIND by " + w[0], Rig.does(x, w[0], 0, 0, 35), w[1]);
            Check.due("WIND by " + w[0] + ": stands", x.state(4), w[2]);
        }
        x.poke(3000, 1, 35);
        x.go(3000);
        Check.due("WIND by - 0", x.step(), 0);
        Check.due("WIND by - 0: stands", x.state(4), 0);
        Rig.reg(x, 2, 4095);
        Check.due("WIND by an index", Rig.does(x, -4085, 2, 0, 35), 0);
        Check.due("WIND by an index: stands", x.state(4), 10);
    }

    private static void atTheEnd() {
        SignMachine x = new SignMachine();
        Rig.mem(x, 3900, 39);
        Check.due("WIND", Rig.does(x, 39, 0, 0, 35), 0);
        Check.due("WRITE the last block", Rig.does(x, 3900, 0, 0, 37), 0);
        Check.due("stands", x.state(4), 40);
        Check.due("tape(0, 39, 0)", x.tape(0, 39, 0), 39);
        Check.due("WRITE", Rig.does(x, 0, 0, 0, 37), 5);
        Check.due("READ", Rig.does(x, 0, 0, 0, 36), 5);
        Check.due("stands", x.state(4), 40);
        Check.due("time", x.state(3), 2);
        Check.due("the other one", Rig.does(x, 0, 0, 1, 36), 0);
        Check.due("WIND", Rig.does(x, -1, 0, 0, 35), 0);
        Check.due("READ the last block", Rig.does(x, 1, 0, 0, 36), 0);
        Rig.dueMem("READ", x, 1, 0, 39);
        Check.due("stands", x.state(4), 40);
    }

    private static void wholeTape() {
        SignMachine x = new SignMachine();
        for (int block = 0; block < 40; block++) {
            Rig.mem(x, 150, -1 - block);
            Check.due("WRITE", Rig.does(x, 100, 0, 0, 37), 0);
        }
        for (int block = 0; block < 40; block++) {
            Check.due("block " + block, x.tape(0, block, 50), -1 - block);
            Check.due("block " + block, x.tape(0, block, 49), 0);
        }
        Check.due("WIND", Rig.does(x, 0, 0, 0, 35), 0);
        for (int block = 0; block < 40; block++) {
            Check.due("READ", Rig.does(x, 200, 0, 0, 36), 0);
            Rig.dueMem("READ", x, 250, 1, 1 + block);
        }
    }

    private static void edgesOfMemory() {
        for (int c = 36; c <= 37; c++) {
            SignMachine x = new SignMachine();
            Check.due("up to 3999", Rig.does(x, 3900, 0, 0, c), 0);
            Check.due("beyond 3999", Rig.does(x, 3901, 0, 0, c), 3);
            Check.due("from 0", Rig.does(x, 0, 0, 0, c), 0);
            Check.due("from - 1", Rig.does(x, -1, 0, 0, c), 3);
            Check.due("stands", x.state(4), 2);
            Check.due("unit 2", Rig.does(x, 0, 0, 2, c), 2);
        }
    }
}
