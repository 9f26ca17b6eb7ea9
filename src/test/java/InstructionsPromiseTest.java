/** Promises 5 and 10: each instruction, and each reason why one can't be. */
public final class InstructionsPromiseTest {
    private static final int MAX = Rig.MAX;

    public static void main(String[] args) {
        nothing();
        adding();
        multiplying();
        dividing();
        converting();
        shifting();
        moving();
        loading();
        storing();
        going();
        changing();
        comparing();
        indexing();
        shapesThatCantBe();
        addressesThatCantBe();
        registersThatCantBe();
        orderOfReasons();
        times();
        states();
        Check.end();
    }

    private static SignMachine fresh() {
        return new SignMachine();
    }

    private static void nothing() {
        for (int f = 0; f < 64; f += 9) {
            SignMachine x = fresh();
            long[] before = Rig.all(x);
            Check.due("0", Rig.does(x, -4095, 0, f, 0), 0);
            before[18] = 3001;
            before[21] = 1;
            Rig.dueSame("0", Rig.all(x), before);
        }
    }

    private static void add(int c, int signA, int a, int signV, int v, int sign, int size, int toggle) {
        SignMachine x = fresh();
        x.set(0, signA, a);
        x.poke(100, signV, v);
        String title = (c == 1 ? "ADD " : "SUBTRACT ") + signA + " " + a + " and " + signV + " " + v;
        Check.due(title, Rig.does(x, 100, 0, 5, c), 0);
        Rig.dueReg(title, x, 0, sign, size);
        Check.due(title + ": toggle", x.state(1), toggle);
        Check.due(title + ": time", x.state(3), 2);
        Rig.dueMem(title, x, 100, signV, v);
        Rig.dueReg(title, x, 7, 0, 0);
    }

    private static void adding() {
        add(1, 0, 5, 0, 7, 0, 12, 0);
        add(1, 0, 5, 1, 7, 1, 2, 0);
        add(1, 0, 5, 1, 5, 0, 0, 0);
        add(1, 1, 5, 0, 5, 1, 0, 0);
        add(1, 1, 0, 0, 0, 1, 0, 0);
        add(1, 0, 0, 1, 0, 0, 0, 0);
        add(1, 1, 0, 0, 3, 0, 3, 0);
        add(1, 0, MAX, 0, 1, 0, 0, 1);
        add(1, 1, MAX, 1, 1, 1, 0, 1);
        add(1, 0, MAX, 0, MAX, 0, MAX - 1, 1);
        add(1, 1, MAX, 1, MAX, 1, MAX - 1, 1);
        add(1, 0, MAX - 1, 0, 1, 0, MAX, 0);
        add(2, 0, 5, 0, 7, 1, 2, 0);
        add(2, 1, 5, 0, 7, 1, 12, 0);
        add(2, 1, 7, 1, 7, 1, 0, 0);
        add(2, 0, 7, 0, 7, 0, 0, 0);
        add(2, 1, 0, 1, 0, 1, 0, 0);
        add(2, 1, MAX, 0, 2, 1, 1, 1);
        add(2, 0, MAX, 1, MAX, 0, MAX - 1, 1);
        fieldsAdded();
        toggleStaysOn();
    }

    private static void fieldsAdded() {
        int word = Rig.bytes(1, 2, 3, 4, 5);
        int[] fields = {0, 5, 13, 9, 45, 19, 20, 1, 2, 29};
        int[] sizes = {0, word, word, 1, 5, Rig.bytes(0, 0, 0, 2, 3), Rig.bytes(0, 0, 2, 3, 4), 1, Rig.bytes(0, 0, 0, 1, 2), Rig.bytes(0, 0, 3, 4, 5)};
        for (int i = 0; i < fields.length; i++) {
            SignMachine x = fresh();
            x.poke(100, 1, word);
            Check.due("ADD field", Rig.does(x, 100, 0, fields[i], 1), 0);
            boolean below = fields[i] < 8 && sizes[i] != 0;
            Rig.dueReg("ADD field " + fields[i], x, 0, below ? 1 : 0, sizes[i]);
        }
    }

    private static void toggleStaysOn() {
        SignMachine x = fresh();
        Rig.reg(x, 0, MAX);
        Rig.mem(x, 100, 1);
        Rig.does(x, 100, 0, 5, 1);
        Rig.does(x, 100, 0, 5, 1);
        Check.due("the toggle stays on", x.state(1), 1);
        Rig.dueReg("ADD", x, 0, 0, 1);
    }

    private static void multiply(int signA, int a, int signV, int v, int f, int sign, int high, int low) {
        SignMachine x = fresh();
        x.set(0, signA, a);
        x.set(7, 1 - sign, 77);
        x.poke(100, signV, v);
        String title = "MULTIPLY " + a + " by " + v;
        Check.due(title, Rig.does(x, 100, 0, f, 3), 0);
        Rig.dueReg(title, x, 0, sign, high);
        Rig.dueReg(title, x, 7, sign, low);
        Check.due(title + ": toggle", x.state(1), 0);
        Check.due(title + ": time", x.state(3), 10);
    }

    private static void multiplying() {
        multiply(0, 3, 0, 4, 5, 0, 0, 12);
        multiply(1, 3, 0, 4, 5, 1, 0, 12);
        multiply(0, 3, 1, 4, 5, 1, 0, 12);
        multiply(1, 3, 1, 4, 5, 0, 0, 12);
        multiply(1, 0, 0, 4, 5, 1, 0, 0);
        multiply(1, 0, 1, 4, 5, 0, 0, 0);
        multiply(0, MAX, 1, MAX, 5, 1, MAX - 1, 1);
        multiply(0, 1 << 15, 0, 1 << 15, 5, 0, 1, 0);
        multiply(0, 2, 1, Rig.bytes(2, 0, 0, 0, 9), 9, 0, 0, 4);
    }

    private static void divide(int signA, int a, int low, int signV, int v, int[] want) {
        SignMachine x = fresh();
        x.set(0, signA, a);
        x.set(7, 1 - signA, low);
        x.poke(100, signV, v);
        String title = "DIVIDE " + a + ", " + low + " by " + v;
        Check.due(title, Rig.does(x, 100, 0, 5, 4), 0);
        Rig.dueReg(title, x, 0, want[0], want[1]);
        Rig.dueReg(title, x, 7, want[2], want[3]);
        Check.due(title + ": toggle", x.state(1), want[4]);
        Check.due(title + ": time", x.state(3), 12);
    }

    private static void dividing() {
        divide(0, 0, 17, 0, 3, new int[] {0, 5, 0, 2, 0});
        divide(1, 0, 17, 0, 3, new int[] {1, 5, 1, 2, 0});
        divide(0, 0, 17, 1, 3, new int[] {1, 5, 0, 2, 0});
        divide(1, 0, 17, 1, 3, new int[] {0, 5, 1, 2, 0});
        divide(0, 1, 0, 0, 2, new int[] {0, 1 << 29, 0, 0, 0});
        divide(1, 0, 2, 0, 3, new int[] {1, 0, 1, 2, 0});
        divide(0, MAX - 1, MAX, 0, MAX, new int[] {0, MAX, 0, MAX - 1, 0});
        divide(0, 5, 17, 0, 5, new int[] {0, 5, 1, 17, 1});
        divide(1, 5, 17, 0, 4, new int[] {1, 5, 0, 17, 1});
        divide(0, 0, 17, 0, 0, new int[] {0, 0, 1, 17, 1});
        divide(1, 9, 9, 1, 0, new int[] {1, 9, 0, 9, 1});
    }

    private static void converting() {
        SignMachine x = fresh();
        x.set(0, 1, Rig.bytes(0, 0, 31, 32, 39));
        x.set(7, 0, Rig.bytes(37, 57, 47, 30, 30));
        Check.due("NUM", Rig.does(x, 0, 0, 0, 5), 0);
        Rig.dueReg("NUM", x, 0, 1, 12977700);
        Rig.dueReg("NUM", x, 7, 0, Rig.bytes(37, 57, 47, 30, 30));
        Check.due("NUM: toggle", x.state(1), 0);
        Check.due("CHAR", Rig.does(x, 0, 0, 1, 5), 0);
        Rig.dueReg("CHAR", x, 0, 1, Rig.bytes(30, 30, 31, 32, 39));
        Rig.dueReg("CHAR", x, 7, 0, Rig.bytes(37, 37, 37, 30, 30));
        Check.due("time", x.state(3), 20);
        number(Rig.bytes(31, 30, 37, 33, 37), Rig.bytes(34, 31, 38, 32, 33), MAX, 0);
        number(Rig.bytes(31, 30, 37, 33, 37), Rig.bytes(34, 31, 38, 32, 34), 0, 1);
        number(Rig.bytes(9, 19, 29, 39, 49), Rig.bytes(59, 9, 9, 9, 9), (int) (9999999999L % (1L << 30)), 1);
        number(Rig.bytes(10, 20, 60, 0, 50), Rig.bytes(40, 30, 10, 0, 63), 3, 0);
        digits();
        halt();
    }

    private static void number(int a, int low, int want, int toggle) {
        SignMachine x = fresh();
        x.set(0, 0, a);
        x.set(7, 1, low);
        Check.due("NUM", Rig.does(x, -5, 0, 0, 5), 0);
        Rig.dueReg("NUM", x, 0, 0, want);
        Rig.dueReg("NUM", x, 7, 1, low);
        Check.due("NUM: toggle", x.state(1), toggle);
    }

    private static void digits() {
        SignMachine x = fresh();
        x.set(0, 0, MAX);
        x.set(7, 1, 5);
        Check.due("CHAR", Rig.does(x, 0, 0, 1, 5), 0);
        Rig.dueReg("CHAR", x, 0, 0, Rig.bytes(31, 30, 37, 33, 37));
        Rig.dueReg("CHAR", x, 7, 1, Rig.bytes(34, 31, 38, 32, 33));
    }

    private static void halt() {
        SignMachine x = fresh();
        Check.due("HALT", Rig.does(x, 0, 0, 2, 5), 1);
        Check.due("HALT: next", x.state(0), 3001);
        Check.due("HALT: time", x.state(3), 10);
        Check.due("HALT: ended", x.state(6), 1);
        Check.due("behind the HALT", x.step(), 0);
        Check.due("ended", x.state(6), 0);
    }

    private static void shift(int f, int m, int[] want) {
        SignMachine x = fresh();
        x.set(0, 1, Rig.bytes(1, 2, 3, 4, 5));
        x.set(7, 0, Rig.bytes(6, 7, 8, 9, 10));
        String title = "shift " + f + " by " + m;
        Check.due(title, Rig.does(x, m, 0, f, 6), 0);
        Rig.dueReg(title, x, 0, 1, Rig.bytes(want[0], want[1], want[2], want[3], want[4]));
        Rig.dueReg(title, x, 7, 0, Rig.bytes(want[5], want[6], want[7], want[8], want[9]));
        Check.due(title + ": time", x.state(3), 2);
        Check.due(title + ": toggle", x.state(1), 0);
    }

    private static void shifting() {
        int[] places = {0, 1, 2, 3, 4, 5, 6, 7, 8, 9, 10, 11, 13, 20, 4095, 4090};
        for (int f = 0; f <= 5; f++) {
            for (int m : places) {
                int many = f <= 1 ? 5 : 10;
                int[] want = new int[10];
                for (int i = 0; i < 10; i++) {
                    int from = f % 2 == 0 ? i + m : i - m;
                    if (f >= 4) {
                        from = Math.floorMod(from, 10);
                    }
                    want[i] = i >= many ? i + 1 : from >= 0 && from < many ? from + 1 : 0;
                }
                shift(f, m, want);
            }
        }
        SignMachine x = fresh();
        Check.due("M - 0 is not below 0", x.poke(0, 1, 6), true);
        Check.due("M - 0 is not below 0", x.step(), 0);
        Check.due("M - 1", Rig.does(x, -1, 0, 0, 6), 3);
    }

    private static void moving() {
        SignMachine x = fresh();
        for (int i = 0; i < 5; i++) {
            x.poke(200 + i, i % 2, 20 + i);
        }
        Rig.reg(x, 1, 202);
        Check.due("MOVE", Rig.does(x, 200, 0, 4, 7), 0);
        int[] want = {20, 21, 20, 21, 20, 21};
        for (int i = 0; i < 6; i++) {
            Rig.dueMem("MOVE one by one", x, 200 + i, i % 2, want[i]);
        }
        Rig.dueMem("MOVE", x, 206, 0, 0);
        Rig.dueReg("MOVE", x, 1, 0, 206);
        Check.due("MOVE: time", x.state(3), 9);
        Rig.reg(x, 1, 198);
        Check.due("MOVE back", Rig.does(x, 200, 0, 3, 7), 0);
        Rig.dueMem("MOVE back", x, 198, 0, 20);
        Rig.dueMem("MOVE back", x, 199, 1, 21);
        Rig.dueMem("MOVE back", x, 200, 0, 20);
        Rig.reg(x, 1, 3937);
        Check.due("MOVE up to 3999", Rig.does(x, 3937, 0, 63, 7), 0);
        Rig.dueReg("MOVE", x, 1, 0, 4000);
        Check.due("MOVE to 4000", Rig.does(x, 0, 0, 1, 7), 3);
        Check.due("MOVE nothing", Rig.does(x, -9, 0, 0, 7), 0);
        Rig.dueReg("MOVE nothing", x, 1, 0, 4000);
        Check.due("set", x.set(1, 1, 0), true);
        Check.due("MOVE nothing", Rig.does(x, 0, 0, 0, 7), 0);
        Rig.dueReg("MOVE nothing", x, 1, 1, 0);
        Check.due("MOVE to - 0", Rig.does(x, 200, 0, 2, 7), 0);
        Rig.dueReg("MOVE to - 0", x, 1, 0, 2);
        Rig.dueMem("MOVE to - 0", x, 0, 0, 20);
        Rig.reg(x, 1, -1);
        Check.due("MOVE to - 1", Rig.does(x, 200, 0, 2, 7), 3);
        Rig.reg(x, 1, 300);
        Check.due("MOVE from 3999", Rig.does(x, 3999, 0, 1, 7), 0);
        Check.due("MOVE from 3999 and 4000", Rig.does(x, 3999, 0, 2, 7), 3);
        Check.due("MOVE from - 1", Rig.does(x, -1, 0, 2, 7), 3);
        Rig.dueReg("MOVE", x, 1, 0, 301);
    }

    private static void loading() {
        int word = Rig.bytes(1, 2, 3, 4, 5);
        for (int r = 0; r <= 7; r++) {
            boolean big = r == 0 || r == 7;
            SignMachine x = fresh();
            x.poke(100, 1, word);
            x.poke(101, 0, 0);
            Check.due("LOAD", Rig.does(x, 100, 0, 5, 8 + r), big ? 0 : 4);
            Rig.dueReg("LOAD " + r, x, r, big ? 1 : 0, big ? word : 0);
            Check.due("LOAD 4:5", Rig.does(x, 100, 0, 37, 8 + r), 0);
            Rig.dueReg("LOAD 4:5", x, r, 0, Rig.bytes(0, 0, 0, 4, 5));
            Check.due("LOAD 0:2", Rig.does(x, 100, 0, 2, 8 + r), 0);
            Rig.dueReg("LOAD 0:2", x, r, 1, Rig.bytes(0, 0, 0, 1, 2));
            Check.due("LOAD 0:0", Rig.does(x, 100, 0, 0, 8 + r), 0);
            Rig.dueReg("LOAD 0:0", x, r, 1, 0);
            Check.due("LOAD with the other sign", Rig.does(x, 100, 0, 2, 16 + r), 0);
            Rig.dueReg("LOAD with the other sign", x, r, 0, Rig.bytes(0, 0, 0, 1, 2));
            Check.due("LOAD with the other sign 3:3", Rig.does(x, 100, 0, 27, 16 + r), 0);
            Rig.dueReg("LOAD with the other sign 3:3", x, r, 1, 3);
            Check.due("LOAD + 0 with the other sign", Rig.does(x, 101, 0, 5, 16 + r), 0);
            Rig.dueReg("LOAD + 0 with the other sign", x, r, 1, 0);
            Rig.dueMem("LOAD", x, 100, 1, word);
            for (int other = 0; other <= 8; other++) {
                if (other != r) {
                    Rig.dueReg("LOAD " + r, x, other, 0, 0);
                }
            }
        }
    }

    private static int registerWord(int r) {
        return r == 0 || r == 7 ? Rig.bytes(6, 7, 8, 9, r) : Rig.bytes(0, 0, 0, 9, r);
    }

    /** What a word of bytes 1 .. 5 with - becomes when a register's bytes come into a field. */
    private static int stored(int register, int f) {
        int[] w = {0, 1, 2, 3, 4, 5};
        int to = f % 8;
        for (int i = to; i >= Math.max(1, f / 8); i--) {
            w[i] = register & 63;
            register >>= 6;
        }
        return Rig.bytes(w[1], w[2], w[3], w[4], w[5]);
    }

    private static void storing() {
        int[] fields = {0, 1, 2, 3, 4, 5, 9, 13, 18, 20, 29, 37, 45};
        for (int c = 24; c <= 33; c++) {
            SignMachine x = fresh();
            int r = c - 24;
            int from = c == 33 ? 0 : registerWord(r);
            int sign = c <= 31 && r % 2 == 0 ? 1 : 0;
            if (c <= 32) {
                Check.due("set", x.set(r, sign, from), true);
            }
            for (int f : fields) {
                x.poke(100, 1 - sign, Rig.bytes(1, 2, 3, 4, 5));
                Check.due("STORE", Rig.does(x, 100, 0, f, c), 0);
                Rig.dueMem("STORE " + c + " field " + f, x, 100, f < 8 ? sign : 1 - sign, stored(from, f));
            }
            if (c <= 32) {
                Rig.dueReg("STORE", x, r, sign, from);
            }
            Check.due("STORE: time", x.state(3), 2 * fields.length);
        }
    }

    private static void go(String title, SignMachine x, int f, int c, boolean goes, boolean tellsJ) {
        Rig.reg(x, 8, 7);
        Check.due(title, Rig.does(x, 1234, 0, f, c), 0);
        Check.due(title + ": next", x.state(0), goes ? 1234 : 3001);
        Rig.dueReg(title, x, 8, 0, goes && tellsJ ? 3001 : 7);
    }

    private static void going() {
        SignMachine x = fresh();
        go("JBUS", x, 0, 34, false, true);
        go("JBUS", x, 1, 34, false, true);
        go("JRED", x, 0, 38, true, true);
        go("JRED", x, 1, 38, true, true);
        go("JMP", x, 0, 39, true, true);
        go("JSJ", x, 1, 39, true, false);
        Check.due("time", x.state(3), 6);
        goingByToggle();
        goingByIndicator();
        goingByRegister();
        x.poke(3999, 0, 5 << 18 | 39);
        x.go(3999);
        Check.due("JMP at the last word", x.step(), 0);
        Rig.dueReg("JMP at the last word", x, 8, 0, 4000);
        Check.due("JMP at the last word", x.state(0), 5);
    }

    private static void goingByToggle() {
        SignMachine x = fresh();
        go("JOV, off", x, 2, 39, false, true);
        Check.due("off", x.state(1), 0);
        go("JNOV, off", x, 3, 39, true, true);
        Check.due("off", x.state(1), 0);
        Rig.mem(x, 100, MAX);
        for (int f = 2; f <= 3; f++) {
            Rig.reg(x, 0, MAX);
            Rig.does(x, 100, 0, 5, 1);
            Check.due("on", x.state(1), 1);
            go("on", x, 0, 39, true, true);
            Check.due("still on", x.state(1), 1);
            go("by the toggle", x, f, 39, f == 2, true);
            Check.due("off then", x.state(1), 0);
        }
    }

    private static void goingByIndicator() {
        SignMachine x = fresh();
        Rig.mem(x, 100, 5);
        for (int a = 4; a <= 6; a++) {
            Rig.reg(x, 0, a);
            Check.due("COMPARE", Rig.does(x, 100, 0, 5, 56), 0);
            Check.due("indicator", x.state(2), a - 5);
            go("JL", x, 4, 39, a < 5, true);
            go("JE", x, 5, 39, a == 5, true);
            go("JG", x, 6, 39, a > 5, true);
            go("JGE", x, 7, 39, a >= 5, true);
            go("JNE", x, 8, 39, a != 5, true);
            go("JLE", x, 9, 39, a <= 5, true);
            Check.due("indicator stays", x.state(2), a - 5);
        }
    }

    private static void goingByRegister() {
        for (int r = 0; r <= 7; r++) {
            SignMachine x = fresh();
            for (int number = -2; number <= 1; number++) {
                Check.due("set", x.set(r, number < 0 ? 1 : 0, number == -1 ? 0 : Math.abs(number)), true);
                int n = number == -1 ? 0 : number;
                go("JN", x, 0, 40 + r, n < 0, true);
                go("JZ", x, 1, 40 + r, n == 0, true);
                go("JP", x, 2, 40 + r, n > 0, true);
                go("JNN", x, 3, 40 + r, n >= 0, true);
                go("JNZ", x, 4, 40 + r, n != 0, true);
                go("JNP", x, 5, 40 + r, n <= 0, true);
            }
        }
    }

    private static void change(int r, int signBefore, int before, int mSign, int m, int f, int sign, int size) {
        SignMachine x = fresh();
        Check.due("set", x.set(r, signBefore, before), true);
        x.poke(0, mSign, m << 18 | f << 6 | 48 + r);
        String title = "register " + r + " " + signBefore + " " + before + ", F " + f + ", M " + mSign + " " + m;
        Check.due(title, x.step(), 0);
        Rig.dueReg(title, x, r, sign, size);
        Check.due(title + ": time", x.state(3), 1);
        Check.due(title + ": toggle", x.state(1), 0);
    }

    private static void changing() {
        for (int r = 0; r <= 7; r++) {
            change(r, 0, 5, 0, 7, 0, 0, 12);
            change(r, 0, 5, 1, 7, 0, 1, 2);
            change(r, 1, 5, 0, 5, 0, 1, 0);
            change(r, 0, 5, 1, 5, 0, 0, 0);
            change(r, 1, 0, 0, 0, 0, 1, 0);
            change(r, 0, 5, 0, 7, 1, 1, 2);
            change(r, 1, 5, 0, 7, 1, 1, 12);
            change(r, 1, 5, 1, 5, 1, 1, 0);
            change(r, 0, 9, 0, 7, 2, 0, 7);
            change(r, 0, 9, 1, 7, 2, 1, 7);
            change(r, 0, 9, 0, 0, 2, 0, 0);
            change(r, 0, 9, 1, 0, 2, 1, 0);
            change(r, 0, 9, 0, 7, 3, 1, 7);
            change(r, 0, 9, 1, 7, 3, 0, 7);
            change(r, 0, 9, 0, 0, 3, 1, 0);
            change(r, 0, 9, 1, 0, 3, 0, 0);
            change(r, 0, 4090, 0, 5, 0, 0, 4095);
            change(r, 1, 4090, 0, 5, 1, 1, 4095);
            change(r, 0, 0, 0, 4095, 2, 0, 4095);
        }
        for (int r = 0; r <= 7; r += 7) {
            SignMachine x = fresh();
            Rig.reg(x, r, MAX);
            Check.due("too great", Rig.does(x, 3, 0, 0, 48 + r), 0);
            Rig.dueReg("too great", x, r, 0, 2);
            Check.due("too great", x.state(1), 1);
            x = fresh();
            Rig.reg(x, r, -MAX);
            Check.due("too great", Rig.does(x, 1, 0, 1, 48 + r), 0);
            Rig.dueReg("too great", x, r, 1, 0);
            Check.due("too great", x.state(1), 1);
        }
    }

    private static void compare(int r, int signR, int register, int signW, int word, int f, int want) {
        SignMachine x = fresh();
        Check.due("set", x.set(r, signR, register), true);
        x.poke(100, signW, word);
        Rig.reg(x, 6, r == 6 ? (signR == 0 ? register : -register) : 6);
        Check.due("COMPARE", Rig.does(x, 100, 0, f, 56 + r), 0);
        Check.due("COMPARE register " + r + " " + signR + " " + register + " with " + signW + " " + word + " field " + f, x.state(2), want);
        Check.due("COMPARE: time", x.state(3), 2);
    }

    private static void comparing() {
        for (int r = 0; r <= 7; r++) {
            compare(r, 0, 5, 0, 5, 5, 0);
            compare(r, 0, 5, 0, 6, 5, -1);
            compare(r, 0, 6, 0, 5, 5, 1);
            compare(r, 1, 6, 0, 5, 5, -1);
            compare(r, 1, 6, 1, 5, 5, -1);
            compare(r, 1, 5, 1, 6, 5, 1);
            compare(r, 1, 5, 0, 5, 5, -1);
            compare(r, 1, 5, 0, 5, 13, 0);
            compare(r, 1, 5, 0, 5, 0, 0);
            compare(r, 1, 0, 0, 0, 5, 0);
            compare(r, 0, 0, 1, 0, 5, 0);
            compare(r, 1, 5, 0, Rig.bytes(1, 0, 0, 0, 5), 45, 0);
            compare(r, 0, 5, 0, Rig.bytes(1, 0, 0, 0, 5), 9, -1);
            compare(r, 0, 5, 1, Rig.bytes(1, 0, 0, 0, 5), 1, 1);
            compare(r, 0, Rig.bytes(0, 0, 0, 2, 1), 0, Rig.bytes(0, 0, 0, 1, 2), 36, 1);
        }
        compare(0, 0, Rig.bytes(1, 2, 3, 4, 5), 1, Rig.bytes(9, 2, 3, 9, 9), 19, 0);
        compare(7, 1, MAX, 0, MAX, 5, -1);
        compare(7, 0, MAX, 1, MAX, 5, 1);
    }

    private static void indexing() {
        SignMachine x = fresh();
        for (int i = 1; i <= 6; i++) {
            Rig.reg(x, i, i % 2 == 0 ? 10 * i : -10 * i);
            Rig.mem(x, 500 + (i % 2 == 0 ? 10 * i : -10 * i), 70 + i);
        }
        for (int i = 1; i <= 6; i++) {
            Check.due("INDEX", Rig.does(x, 500, i, 5, 8), 0);
            Rig.dueReg("INDEX " + i, x, 0, 0, 70 + i);
        }
        Rig.reg(x, 1, 5);
        Check.due("sum 0", Rig.does(x, -5, 1, 2, 48), 0);
        Rig.dueReg("a sum 0 has the ADDRESS's sign", x, 0, 1, 0);
        Rig.reg(x, 1, -5);
        Check.due("sum 0", Rig.does(x, 5, 1, 2, 48), 0);
        Rig.dueReg("a sum 0 has the ADDRESS's sign", x, 0, 0, 0);
        Rig.reg(x, 1, -4095);
        Check.due("- 8190", Rig.does(x, -4095, 1, 2, 48), 0);
        Rig.dueReg("- 8190", x, 0, 1, 8190);
        Rig.reg(x, 1, 4095);
        Check.due("8190", Rig.does(x, 4095, 1, 3, 48), 0);
        Rig.dueReg("- 8190", x, 0, 1, 8190);
        Rig.reg(x, 1, -95);
        Check.due("back into memory", Rig.does(x, 4094, 1, 5, 8), 0);
        Check.due("beyond memory", Rig.does(x, 4095, 1, 5, 8), 3);
        Check.due("at - 0", Rig.does(x, 95, 1, 5, 8), 0);
        Check.due("below 0", Rig.does(x, 94, 1, 5, 8), 3);
    }

    /** The instruction can't be, and nothing is another than before. */
    private static void cant(int why, SignMachine x, int address, int index, int f, int c) {
        Rig.put(x, 3000, address, index, f, c);
        Check.due("go", x.go(3000), true);
        long[] before = Rig.all(x);
        String title = "address " + address + " INDEX " + index + " F " + f + " C " + c;
        Check.due(title, x.step(), why);
        Rig.dueSame(title, Rig.all(x), before);
        Check.due(title + ": ended", x.state(6), why);
    }

    private static boolean fieldCanBe(int c, int f) {
        if (c >= 1 && c <= 4 || c >= 8 && c <= 33 || c >= 56) {
            return f % 8 <= 5 && f / 8 <= f % 8;
        }
        if (c == 0 || c == 7) {
            return true;
        }
        int most = c == 5 ? 2 : c == 6 ? 5 : c <= 38 ? 1 : c == 39 ? 9 : c <= 47 ? 5 : 3;
        return f <= most;
    }

    private static void shapesThatCantBe() {
        for (int c = 0; c < 64; c++) {
            for (int f = 0; f < 64; f++) {
                SignMachine x = fresh();
                Rig.put(x, 3000, 100, 0, f, c);
                Rig.mem(x, 100, 1);
                x.go(3000);
                int want = !fieldCanBe(c, f) ? 2 : c == 5 && f == 2 ? 1 : c == 35 ? 5 : 0;
                Check.due("C " + c + " F " + f, x.step(), want);
                Check.due("C " + c + " F " + f + ": time", x.state(3) > 0, want < 2);
                Check.due("C " + c + " F " + f + ": next", x.state(0) == 3000, want >= 2);
            }
            SignMachine x = fresh();
            for (int index = 7; index <= 63; index += 7) {
                Rig.put(x, 3000, 0, index, 0, c);
                x.go(3000);
                Check.due("C " + c + " INDEX " + index, x.step(), 2);
            }
            Rig.put(x, 3000, 0, 6, 0, c);
            Check.due("C " + c + " INDEX 6", x.step(), 0);
        }
        cant(2, fresh(), 0, 7, 5, 8);
        cant(2, fresh(), 0, 0, 6, 8);
        cant(2, fresh(), 0, 0, 8, 24);
        cant(2, fresh(), 0, 0, 3, 5);
        cant(2, fresh(), 0, 0, 2, 36);
    }

    private static void addressesThatCantBe() {
        for (int c = 0; c < 64; c++) {
            boolean word = c >= 1 && c <= 4 || c >= 8 && c <= 33 || c >= 56;
            boolean goes = c == 34 || c == 38 || c >= 39 && c <= 47;
            for (int address : new int[] {-1, 4000, 4095, -4095}) {
                if (word || goes || c == 36 || c == 37 || c == 6 && address < 0) {
                    cant(3, fresh(), address, 0, 0, c);
                } else if (c != 35) {
                    Check.due("C " + c + " address " + address, Rig.does(fresh(), address, 0, 0, c), 0);
                }
            }
            if (word || goes) {
                Check.due("C " + c + " address 3999", Rig.does(fresh(), 3999, 0, 0, c), 0);
                SignMachine x = fresh();
                x.poke(3000, 1, c);
                x.go(3000);
                Check.due("C " + c + " address - 0", x.step(), 0);
            }
        }
        for (int f = 0; f <= 9; f++) {
            cant(3, fresh(), 4000, 0, f, 39);
            cant(3, fresh(), -1, 0, f, 39);
        }
        for (int f = 0; f <= 5; f++) {
            cant(3, fresh(), 4000, 0, f, 41);
            cant(3, fresh(), -1, 0, f, 6);
        }
        SignMachine x = fresh();
        x.go(3999);
        Check.due("the last word", x.step(), 0);
        Check.due("behind the last word", x.state(0), 4000);
        long[] before = Rig.all(x);
        Check.due("the place of the instruction itself", x.step(), 3);
        Rig.dueSame("the place of the instruction itself", Rig.all(x), before);
        Check.due("ended", x.state(6), 3);
    }

    private static void registersThatCantBe() {
        for (int r = 0; r <= 7; r++) {
            int why = r == 0 || r == 7 ? 0 : 4;
            SignMachine x = fresh();
            Rig.mem(x, 100, 4096);
            Rig.mem(x, 101, -4096);
            Rig.mem(x, 102, -4095);
            Check.due("LOAD 4096", Rig.does(x, 100, 0, 5, 8 + r), why);
            Check.due("LOAD - 4096", Rig.does(x, 101, 0, 5, 8 + r), why);
            Check.due("LOAD - 4095", Rig.does(x, 102, 0, 5, 8 + r), 0);
            Check.due("LOAD 4096 with the other sign", Rig.does(x, 100, 0, 5, 16 + r), why);
            Check.due("LOAD - 4095 with the other sign", Rig.does(x, 102, 0, 5, 16 + r), 0);
            Rig.dueReg("LOAD - 4095 with the other sign", x, r, 0, 4095);
            Check.due("grows", Rig.does(x, 1, 0, 0, 48 + r), why);
            Rig.dueReg("grows", x, r, 0, why == 0 ? 4096 : 4095);
            Rig.reg(x, r, -4095);
            Check.due("lessens", Rig.does(x, 1, 0, 1, 48 + r), why);
            Rig.dueReg("lessens", x, r, 1, why == 0 ? 4096 : 4095);
            int other = r == 3 ? 4 : 3;
            Rig.reg(x, other, 1);
            Check.due("becomes 4096", Rig.does(x, 4095, other, 2, 48 + r), why);
            Check.due("becomes - 4096", Rig.does(x, 4095, other, 3, 48 + r), why);
            Rig.dueReg("becomes - 4096", x, r, 1, why == 0 ? 4096 : 4095);
        }
        SignMachine x = fresh();
        Rig.mem(x, 100, 4096);
        cant(4, x, 100, 0, 5, 9);
        cant(4, x, 100, 0, 5, 22);
        Rig.reg(x, 2, 4095);
        cant(4, x, 1, 0, 0, 50);
        cant(4, x, -1, 0, 1, 50);
        cant(4, x, 1, 2, 2, 53);
        cant(4, x, 1, 2, 3, 53);
    }

    private static void orderOfReasons() {
        cant(2, fresh(), 4000, 0, 6, 8);
        cant(2, fresh(), 4000, 7, 5, 8);
        cant(2, fresh(), -1, 0, 6, 6);
        cant(2, fresh(), 4000, 0, 2, 36);
        cant(2, fresh(), 1, 7, 0, 35);
        SignMachine x = fresh();
        Check.due("to the tape's end", Rig.does(x, 40, 0, 0, 35), 0);
        cant(3, x, 3901, 0, 0, 36);
        cant(3, x, -1, 0, 0, 37);
        cant(5, x, 3900, 0, 0, 36);
        cant(5, x, 0, 0, 0, 37);
    }

    private static void times() {
        SignMachine x = fresh();
        int[][] kinds = {{0, 0, 1}, {1, 5, 2}, {2, 5, 2}, {3, 5, 10}, {4, 5, 12}, {5, 0, 10}, {5, 1, 10}, {6, 0, 2}, {6, 5, 2}, {7, 0, 1},
            {7, 3, 7}, {7, 63, 127}, {8, 5, 2}, {15, 5, 2}, {16, 5, 2}, {23, 5, 2}, {24, 5, 2}, {31, 5, 2}, {32, 2, 2}, {33, 5, 2}, {34, 0, 1},
            {35, 0, 1}, {36, 0, 1}, {37, 0, 1}, {38, 0, 1}, {39, 0, 1}, {39, 4, 1}, {40, 0, 1}, {47, 5, 1}, {48, 0, 1}, {55, 3, 1}, {56, 5, 2}, {63, 5, 2}};
        int time = 0;
        for (int[] kind : kinds) {
            Check.due("C " + kind[0], Rig.does(x, 0, 0, kind[1], kind[0]), 0);
            time += kind[2];
            Check.due("TIME of C " + kind[0] + " F " + kind[1], x.state(3), time);
        }
    }

    private static void states() {
        SignMachine x = fresh();
        int[] none = {-1, 7, 8, 100, Integer.MIN_VALUE, Integer.MAX_VALUE};
        for (int what : none) {
            Check.due("state(" + what + ")", x.state(what), -2);
        }
        Check.due("WIND", Rig.does(x, 3, 0, 0, 35), 0);
        Check.due("WIND", Rig.does(x, 9, 0, 1, 35), 0);
        Check.due("tape 0 stands", x.state(4), 3);
        Check.due("tape 1 stands", x.state(5), 9);
    }
}
